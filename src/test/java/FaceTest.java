import java.lang.reflect.Constructor;
import java.lang.reflect.Field;
import java.lang.reflect.Method;
import java.lang.reflect.Modifier;
import java.nio.file.Files;
import java.nio.file.Path;
import java.util.ArrayList;
import java.util.Arrays;
import java.util.List;
import java.util.Set;
import java.util.TreeSet;
import java.util.regex.Matcher;
import java.util.regex.Pattern;

/** The face of the class is the document's, no more and no less, and the file keeps to LANGUAGE.md. */
public final class FaceTest {
    private static final String[] FACE = {
        "int box(int,int,int)", "int hold(int,int)", "int price(int,int)", "int set(int,int)",
        "int cost(int,int,int)", "long skin(long)", "long all(long)", "int right(long)", "long least()",
        "long film(int)", "int room(int,int)", "int many()", "int net(int,int)", "int lift(int,int,int)",
        "int pin(int,int,boolean)", "int height(int,int)", "int drawn()", "int slack()", "int rounds(int)",
        "int count(int)", "long trace()"};
    private static final String[] RULED_OUT = {
        "\\bthrow\\b", "\\bthrows\\b", "\\btry\\b", "\\bcatch\\b", "\\bsynchronized\\b", "\\bassert\\b", "->", "::",
        "\\bpackage\\b", "Exact\\b", "\\bstatic\\s*\\{", "\\bSystem\\.(?!arraycopy)", "\\bThread\\b", "\\bRandom\\b",
        "\\bimport (?!java\\.util\\.(Arrays|ArrayList|List|Iterator);)", "\\bObject\\b", "\\bhashCode\\b",
        "\\bwhile \\(true\\)", "\\bfor \\(;;\\)"};
    private static int wrong = 0;

    private static void due(String what, Object got, Object want) {
        if (!got.equals(want)) {
            wrong++;
            System.out.println(what + " is " + got + ", due is " + want);
        }
    }

    private static void checkConstants() {
        due("BAD", SkinBox.BAD, -1);
        due("STATE", SkinBox.STATE, -2);
        due("FULL", SkinBox.FULL, -3);
        due("NONE", SkinBox.NONE, -9);
        due("NO", SkinBox.NO, -1000000);
    }

    private static void checkMembers() {
        due("the class is public and final", Modifier.isPublic(SkinBox.class.getModifiers())
                && Modifier.isFinal(SkinBox.class.getModifiers()), true);
        Set<String> names = new TreeSet<>();
        Set<String> seen = new TreeSet<>();
        for (Method m : SkinBox.class.getDeclaredMethods()) {
            if (!Modifier.isPrivate(m.getModifiers()) && !m.isSynthetic()) {
                seen.add(m.getReturnType() + " " + m.getName() + "("
                        + String.join(",", Arrays.stream(m.getParameterTypes()).map(Class::getName).toList()) + ")");
                names.add(m.getName());
            }
        }
        due("the methods", seen, new TreeSet<>(List.of(FACE)));
        Set<String> constants = new TreeSet<>();
        for (Field f : SkinBox.class.getDeclaredFields()) {
            if (!Modifier.isPrivate(f.getModifiers())) {
                constants.add(f.getType() + " " + f.getName());
            }
            if (Modifier.isStatic(f.getModifiers())) {
                due("static " + f.getName() + " is final", Modifier.isFinal(f.getModifiers()), true);
            }
        }
        due("the constants", constants,
                new TreeSet<>(List.of("int BAD", "int STATE", "int FULL", "int NONE", "int NO")));
        Constructor<?>[] made = SkinBox.class.getDeclaredConstructors();
        due("one constructor", made.length, 1);
        due("it takes nothing", made[0].getParameterCount(), 0);
        for (Class<?> inside : SkinBox.class.getDeclaredClasses()) {
            checkInside(inside, names);
        }
    }

    private static void checkInside(Class<?> inside, Set<String> names) {
        due(inside + " is static", Modifier.isStatic(inside.getModifiers()), true);
        due(inside + " is not public", Modifier.isPublic(inside.getModifiers()), false);
        int fields = 0;
        for (Field f : inside.getDeclaredFields()) {
            fields += Modifier.isStatic(f.getModifiers()) ? 0 : 1;
        }
        due(inside + " has twenty fields at most", fields <= 20, true);
        for (Method m : inside.getDeclaredMethods()) {
            due(inside + "." + m.getName() + " bears a name of the face", names.contains(m.getName()), false);
            due(inside + "." + m.getName() + " takes seven at most", m.getParameterCount() <= 7, true);
        }
    }

    private static void checkSource() throws Exception {
        String text = Files.readString(Path.of("src/main/java/SkinBox.java"));
        String bare = text.replaceAll("(?s)/\\*.*?\\*/", "").replaceAll("//[^\n]*", "");
        List<String> found = new ArrayList<>();
        for (String rule : RULED_OUT) {
            Matcher m = Pattern.compile(rule).matcher(bare);
            if (m.find()) {
                found.add(rule);
            }
        }
        due("what LANGUAGE.md rules out", found, List.of());
    }

    public static void main(String[] args) throws Exception {
        checkConstants();
        checkMembers();
        checkSource();
        System.out.println(wrong == 0 ? "the face is as due" : wrong + " things are not as due");
        if (wrong != 0) {
            System.exit(1);
        }
    }
}
