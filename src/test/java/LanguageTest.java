import com.sun.source.tree.AssignmentTree;
import com.sun.source.tree.BinaryTree;
import com.sun.source.tree.ClassTree;
import com.sun.source.tree.CompilationUnitTree;
import com.sun.source.tree.CompoundAssignmentTree;
import com.sun.source.tree.ExpressionStatementTree;
import com.sun.source.tree.ExpressionTree;
import com.sun.source.tree.ForLoopTree;
import com.sun.source.tree.IdentifierTree;
import com.sun.source.tree.ImportTree;
import com.sun.source.tree.LiteralTree;
import com.sun.source.tree.MemberSelectTree;
import com.sun.source.tree.MethodInvocationTree;
import com.sun.source.tree.MethodTree;
import com.sun.source.tree.NewArrayTree;
import com.sun.source.tree.NewClassTree;
import com.sun.source.tree.ParenthesizedTree;
import com.sun.source.tree.Tree;
import com.sun.source.tree.UnaryTree;
import com.sun.source.tree.VariableTree;
import com.sun.source.tree.WhileLoopTree;
import com.sun.source.util.JavacTask;
import com.sun.source.util.TreePath;
import com.sun.source.util.TreePathScanner;
import com.sun.source.util.TreeScanner;
import com.sun.source.util.Trees;
import java.io.File;
import java.util.ArrayList;
import java.util.EnumSet;
import java.util.HashMap;
import java.util.HashSet;
import java.util.List;
import java.util.Map;
import java.util.Set;
import java.util.TreeSet;
import javax.lang.model.element.Element;
import javax.lang.model.element.ElementKind;
import javax.lang.model.element.ExecutableElement;
import javax.lang.model.element.Modifier;
import javax.lang.model.element.TypeElement;
import javax.lang.model.element.VariableElement;
import javax.tools.JavaCompiler;
import javax.tools.StandardJavaFileManager;
import javax.tools.ToolProvider;

/**
 * The class keeps to LANGUAGE.md: what its rules say of the text is looked for in the tree that the compiler
 * makes of it. What is asked here is narrower than the rules where the class needs less than they leave
 * (no recursion at all, no object made but in constructors and fields, no texts, no lists).
 */
public final class LanguageTest {
    private static final String FILE = "src/main/java/SkinBox.java";

    private static final Set<String> LIBRARY = Set.of("Math.min", "Math.max", "Math.abs", "Integer.bitCount",
            "Long.bitCount", "Arrays.fill", "Object.<init>");
    private static final Set<String> PLAIN_TYPES = Set.of("int", "long", "boolean", "int[]", "long[]", "boolean[]",
            "int[][]", "long[][]");
    private static final Set<Tree.Kind> RULED_OUT = EnumSet.of(Tree.Kind.THROW, Tree.Kind.TRY, Tree.Kind.CATCH,
            Tree.Kind.SYNCHRONIZED, Tree.Kind.ASSERT, Tree.Kind.LAMBDA_EXPRESSION, Tree.Kind.MEMBER_REFERENCE,
            Tree.Kind.TYPE_CAST, Tree.Kind.STRING_LITERAL, Tree.Kind.NULL_LITERAL, Tree.Kind.BINDING_PATTERN,
            Tree.Kind.DOUBLE_LITERAL, Tree.Kind.FLOAT_LITERAL, Tree.Kind.DIVIDE_ASSIGNMENT,
            Tree.Kind.REMAINDER_ASSIGNMENT, Tree.Kind.ANNOTATION, Tree.Kind.DO_WHILE_LOOP);

    private static Trees trees;
    private static CompilationUnitTree unit;
    private static final Map<Element, Set<Element>> calls = new HashMap<>();
    private static int classes = 0;

    private static void broken(int rule, String what, Tree where) {
        long line = where == null ? 0 : lineOf(where);
        Due.due("rule " + rule + ", line " + line + ": " + what, "broken", "kept");
    }

    private static void keep(boolean kept, int rule, String what, Tree where) {
        if (!kept) {
            broken(rule, what, where);
        }
    }

    private static long lineOf(Tree tree) {
        return unit.getLineMap().getLineNumber(trees.getSourcePositions().getStartPosition(unit, tree));
    }

    private static long lastLineOf(Tree tree) {
        return unit.getLineMap().getLineNumber(trees.getSourcePositions().getEndPosition(unit, tree));
    }

    /** Looks at every node of the file once. */
    private static final class Rules extends TreePathScanner<Void, Void> {
        private Element method = null;

        @Override
        public Void scan(Tree tree, Void v) {
            if (tree != null && RULED_OUT.contains(tree.getKind())) {
                broken(6, tree.getKind() + " is not used", tree);
            }
            return super.scan(tree, v);
        }

        private Element element() {
            return trees.getElement(getCurrentPath());
        }

        @Override
        public Void visitImport(ImportTree t, Void v) {
            keep(t.getQualifiedIdentifier().toString().equals("java.util.Arrays"), 4, "import " + t, t);
            return super.visitImport(t, v);
        }

        @Override
        public Void visitClass(ClassTree t, Void v) {
            classes++;
            Element e = element();
            boolean outer = e.getEnclosingElement().getKind() == ElementKind.PACKAGE;
            Set<Modifier> m = e.getModifiers();
            keep(t.getKind() == Tree.Kind.CLASS, 2, "a class is plain", t);
            keep(!t.getSimpleName().isEmpty(), 2, "no anonymous class", t);
            keep(outer ? m.contains(Modifier.PUBLIC) : m.contains(Modifier.STATIC), 1, "classes inside are static", t);
            keep(m.contains(Modifier.FINAL), 12, "no method can be overridden", t);
            keep(outer || !m.contains(Modifier.PUBLIC) && !m.contains(Modifier.PROTECTED), 1, "inside is private", t);
            int fields = 0;
            for (Tree member : t.getMembers()) {
                boolean field = member instanceof VariableTree;
                fields += field && !((VariableTree) member).getModifiers().getFlags().contains(Modifier.STATIC) ? 1 : 0;
                keep(member.getKind() != Tree.Kind.BLOCK, 5, "no initialiser block", member);
            }
            keep(fields <= 20, 11, "a class has twenty fields at most", t);
            return super.visitClass(t, v);
        }

        @Override
        public Void visitMethod(MethodTree t, Void v) {
            Element before = method;
            method = element();
            calls.putIfAbsent(method, new HashSet<>());
            keep(t.getParameters().size() <= 7, 11, t.getName() + " takes seven at most", t);
            keep(lastLineOf(t) - lineOf(t) < 60, 11, t.getName() + " is short", t);
            keep(t.getThrows().isEmpty(), 6, t.getName() + " throws nothing", t);
            super.visitMethod(t, v);
            method = before;
            return null;
        }

        @Override
        public Void visitVariable(VariableTree t, Void v) {
            Element e = element();
            String type = e.asType().toString();
            keep(PLAIN_TYPES.contains(type) || type.startsWith("SkinBox."), 3, type + " " + t.getName(), t);
            if (e.getKind() == ElementKind.FIELD && e.getModifiers().contains(Modifier.STATIC)) {
                boolean constant = ((VariableElement) e).getConstantValue() != null;
                keep(e.getModifiers().contains(Modifier.FINAL), 5, t.getName() + " is final", t);
                keep(constant || isWrittenOut(t.getInitializer()), 5, t.getName() + " is written out", t);
            }
            return super.visitVariable(t, v);
        }

        private boolean isWrittenOut(ExpressionTree init) {
            if (!(init instanceof NewArrayTree)) {
                return false;
            }
            List<? extends ExpressionTree> parts = ((NewArrayTree) init).getInitializers();
            boolean all = parts != null;
            for (int i = 0; all && i < parts.size(); i++) {
                all = parts.get(i) instanceof LiteralTree;
            }
            return all;
        }

        @Override
        public Void visitMethodInvocation(MethodInvocationTree t, Void v) {
            called((ExecutableElement) element(), t);
            return super.visitMethodInvocation(t, v);
        }

        @Override
        public Void visitNewClass(NewClassTree t, Void v) {
            keep(method == null, 12, "objects are made for fields alone", t);
            keep(t.getArguments().isEmpty(), 12, "a constructor hands out nothing", t);
            called((ExecutableElement) element(), t);
            return super.visitNewClass(t, v);
        }

        @Override
        public Void visitNewArray(NewArrayTree t, Void v) {
            keep(method == null, 12, "arrays are made for fields alone", t);
            return super.visitNewArray(t, v);
        }

        private void called(ExecutableElement to, Tree t) {
            TypeElement owner = (TypeElement) to.getEnclosingElement();
            if (owner.getQualifiedName().toString().startsWith("SkinBox")) {
                if (method != null) {
                    calls.get(method).add(to);
                }
            } else {
                String name = owner.getSimpleName() + "." + to.getSimpleName();
                keep(LIBRARY.contains(name), 4, name + " is of the library", t);
            }
        }

        @Override
        public Void visitBinary(BinaryTree t, Void v) {
            if (t.getKind() == Tree.Kind.DIVIDE || t.getKind() == Tree.Kind.REMAINDER) {
                boolean safe = t.getRightOperand() instanceof LiteralTree && !t.getRightOperand().toString().equals("0");
                keep(safe, 7, "a divisor that is not a number is not used", t);
            }
            return super.visitBinary(t, v);
        }

        @Override
        public Void visitAssignment(AssignmentTree t, Void v) {
            changes(t.getVariable(), t);
            return super.visitAssignment(t, v);
        }

        @Override
        public Void visitCompoundAssignment(CompoundAssignmentTree t, Void v) {
            changes(t.getVariable(), t);
            return super.visitCompoundAssignment(t, v);
        }

        private void changes(ExpressionTree to, Tree t) {
            String name = to.toString().replaceAll("\\[.*", "");
            keep(!name.equals(name.toUpperCase()), 5, name + " is never changed", t);
        }

        @Override
        public Void visitForLoop(ForLoopTree t, Void v) {
            List<ExpressionTree> updates = new ArrayList<>();
            for (ExpressionStatementTree u : t.getUpdate()) {
                updates.add(u.getExpression());
            }
            keep(hasAnEnd(t.getCondition(), t.getStatement(), updates), 9, "a loop's end is seen", t);
            return super.visitForLoop(t, v);
        }

        @Override
        public Void visitWhileLoop(WhileLoopTree t, Void v) {
            keep(hasAnEnd(t.getCondition(), t.getStatement(), List.of()), 9, "a loop's end is seen", t);
            return super.visitWhileLoop(t, v);
        }
    }

    /**
     * Of the parts of a loop's condition that all must hold, one compares a counter, which the loop only moves
     * towards its bound, with a bound that the loop's own lines do not change.
     */
    private static boolean hasAnEnd(ExpressionTree condition, Tree body, List<ExpressionTree> updates) {
        if (condition == null) {
            return false;
        }
        Map<String, Set<Tree.Kind>> changed = changedIn(body, updates);
        for (BinaryTree part : comparisons(condition)) {
            boolean up = part.getKind() == Tree.Kind.LESS_THAN;
            Tree.Kind move = up ? Tree.Kind.POSTFIX_INCREMENT : Tree.Kind.POSTFIX_DECREMENT;
            boolean known = up || part.getKind() == Tree.Kind.GREATER_THAN;
            Set<Tree.Kind> moves = changed.get(part.getLeftOperand().toString());
            boolean counts = moves != null && moves.equals(Set.of(move));
            boolean bound = true;
            for (String name : changed.keySet()) {
                bound &= !part.getRightOperand().toString().matches(".*\\b" + name + "\\b.*");
            }
            if (known && counts && bound) {
                return true;
            }
        }
        return false;
    }

    private static List<BinaryTree> comparisons(ExpressionTree condition) {
        List<BinaryTree> found = new ArrayList<>();
        ExpressionTree bare = condition;
        while (bare instanceof ParenthesizedTree) {
            bare = ((ParenthesizedTree) bare).getExpression();
        }
        if (bare instanceof BinaryTree) {
            BinaryTree both = (BinaryTree) bare;
            if (both.getKind() == Tree.Kind.CONDITIONAL_AND) {
                found.addAll(comparisons(both.getLeftOperand()));
                found.addAll(comparisons(both.getRightOperand()));
            } else {
                found.add(both);
            }
        }
        return found;
    }

    private static Map<String, Set<Tree.Kind>> changedIn(Tree body, List<ExpressionTree> updates) {
        Map<String, Set<Tree.Kind>> changed = new HashMap<>();
        TreeScanner<Void, Void> scanner = new TreeScanner<>() {
            private void note(ExpressionTree to, Tree.Kind how) {
                if (to instanceof IdentifierTree || to instanceof MemberSelectTree) {
                    changed.computeIfAbsent(to.toString(), k -> new HashSet<>()).add(how);
                }
            }

            @Override
            public Void visitAssignment(AssignmentTree t, Void v) {
                note(t.getVariable(), t.getKind());
                return super.visitAssignment(t, v);
            }

            @Override
            public Void visitCompoundAssignment(CompoundAssignmentTree t, Void v) {
                note(t.getVariable(), t.getKind());
                return super.visitCompoundAssignment(t, v);
            }

            @Override
            public Void visitUnary(UnaryTree t, Void v) {
                if (t.getKind() == Tree.Kind.POSTFIX_INCREMENT || t.getKind() == Tree.Kind.POSTFIX_DECREMENT
                        || t.getKind() == Tree.Kind.PREFIX_INCREMENT || t.getKind() == Tree.Kind.PREFIX_DECREMENT) {
                    note(t.getExpression(), t.getKind());
                }
                return super.visitUnary(t, v);
            }
        };
        scanner.scan(body, null);
        scanner.scan(updates, null);
        return changed;
    }

    /** How deep calls go from a method; more than any bound if it comes back to one that stands open. */
    private static int depth(Element from, Set<Element> open) {
        if (!open.add(from)) {
            return 1000;
        }
        int deepest = 0;
        for (Element to : calls.getOrDefault(from, Set.of())) {
            deepest = Math.max(deepest, depth(to, open));
        }
        open.remove(from);
        return 1 + deepest;
    }

    private static void checkCalls() {
        Set<String> face = new TreeSet<>();
        for (Element e : calls.keySet()) {
            if (e.getModifiers().contains(Modifier.PUBLIC) && e.getKind() == ElementKind.METHOD) {
                face.add(e.getSimpleName().toString());
            }
        }
        for (Element e : calls.keySet()) {
            int deep = depth(e, new HashSet<>());
            keep(deep < 1000, 8, e + " does not call itself", null);
            keep(deep <= 8, 11, e + " calls " + deep + " deep", null);
            boolean own = !e.getModifiers().contains(Modifier.PUBLIC);
            keep(!own || !face.contains(e.getSimpleName().toString()), 1, e + " bears a name of the face", null);
        }
        keep(classes <= 12, 11, classes + " classes", null);
        keep(calls.size() > 21, 1, "the methods were found", null);
    }

    public static void main(String[] args) throws Exception {
        JavaCompiler compiler = ToolProvider.getSystemJavaCompiler();
        try (StandardJavaFileManager files = compiler.getStandardFileManager(null, null, null)) {
            JavacTask task = (JavacTask) compiler.getTask(null, files, null, List.of("--release", "17", "-proc:none"),
                    null, files.getJavaFileObjects(new File(FILE)));
            unit = task.parse().iterator().next();
            trees = Trees.instance(task);
            task.analyze();
            keep(unit.getPackageName() == null, 1, "no package", null);
            keep(unit.getTypeDecls().size() == 1, 1, "one class in the file", null);
            new Rules().scan(new TreePath(unit), null);
            checkCalls();
        }
        Due.end("the language is kept to");
    }
}
