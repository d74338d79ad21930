import java.lang.reflect.Constructor;
import java.lang.reflect.Field;
import java.lang.reflect.Method;
import java.lang.reflect.Modifier;
import java.util.Arrays;
import java.util.List;
import java.util.Set;
import java.util.TreeSet;

/** The face of the class is the document's, no more and no less. */
public final class FaceTest {
    private static final String[] FACE = {
        "int box(int,int,int)", "int hold(int,int)", "int price(int,int)", "int set(int,int)",
        "int cost(int,int,int)", "long skin(long)", "long all(long)", "int right(long)", "long least()",
        "long film(int)", "int room(int,int)", "int many()", "int net(int,int)", "int lift(int,int,int)",
        "int pin(int,int,boolean)", "int height(int,int)", "int drawn()", "int slack()", "int rounds(int)",
        "int count(int)", "long trace()"};

    private static void checkConstants() {
        Due.due("BAD", SkinBox.BAD, -1);
        Due.due("STATE", SkinBox.STATE, -2);
        Due.due("FULL", SkinBox.FULL, -3);
        Due.due("NONE", SkinBox.NONE, -9);
        Due.due("NO", SkinBox.NO, -1000000);
    }

    private static void checkMembers() {
        Due.due("the class is public and final", Modifier.isPublic(SkinBox.class.getModifiers())
                && Modifier.isFinal(SkinBox.class.getModifiers()), true);
        Set<String> seen = new TreeSet<>();
        for (Method m : SkinBox.class.getDeclaredMethods()) {
            if (!Modifier.isPrivate(m.getModifiers()) && !m.isSynthetic()) {
                seen.add(Modifier.toString(m.getModifiers()) + " " + m.getReturnType() + " " + m.getName() + "("
                        + String.join(",", Arrays.stream(m.getParameterTypes()).map(Class::getName).toList()) + ")");
            }
        }
        Set<String> face = new TreeSet<>();
        for (String method : FACE) {
            face.add("public " + method);
        }
        Due.due("the methods", seen, face);
        Set<String> constants = new TreeSet<>();
        for (Field f : SkinBox.class.getDeclaredFields()) {
            if (!Modifier.isPrivate(f.getModifiers())) {
                constants.add(Modifier.toString(f.getModifiers()) + " " + f.getType() + " " + f.getName());
            }
        }
        Set<String> due = new TreeSet<>();
        for (String name : List.of("BAD", "STATE", "FULL", "NONE", "NO")) {
            due.add("public static final int " + name);
        }
        Due.due("the constants", constants, due);
        Constructor<?>[] made = SkinBox.class.getDeclaredConstructors();
        Due.due("one constructor", made.length, 1);
        Due.due("it takes nothing", made[0].getParameterCount(), 0);
        Due.due("it is public", Modifier.isPublic(made[0].getModifiers()), true);
    }

    public static void main(String[] args) {
        checkConstants();
        checkMembers();
        Due.end("the face is as due");
    }
}
