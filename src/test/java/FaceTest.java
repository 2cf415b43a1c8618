import java.lang.reflect.Constructor;
import java.lang.reflect.Field;
import java.lang.reflect.Method;
import java.lang.reflect.Modifier;
import java.util.Arrays;
import java.util.Set;
import java.util.TreeSet;

/** The public face is the document's and no more (rule 1 of LANGUAGE.md, and rule 5 on static state). */
public final class FaceTest {
    private static final Checks CHECKS = new Checks();

    private static final String[] FACE = {
        "int put(int)", "int empty()", "void source(int, int, int, int)", "int stage(int, int, int)",
        "int flags()", "int run(int, int, int)", "void pool(int, int, int)", "int parts(int, int, int)",
        "int seen(int)", "int kept(int)", "int pooled(int)"};

    public static void main(String[] args) {
        CHECKS.due("modifiers of the class", Modifier.toString(StageLines.class.getModifiers()), "public final");
        CHECKS.due("the methods", visibleMethods().toString(), new TreeSet<>(Arrays.asList(FACE)).toString());
        CHECKS.due("the constructors", constructors(), "public StageLines()");
        for (Field f : StageLines.class.getDeclaredFields()) {
            CHECKS.due(f + " is private", Modifier.isPrivate(f.getModifiers()) ? 1 : 0, 1);
        }
        checkInside();
        CHECKS.end();
    }

    private static Set<String> visibleMethods() {
        Set<String> found = new TreeSet<>();
        for (Method m : StageLines.class.getDeclaredMethods()) {
            if (!Modifier.isPrivate(m.getModifiers())) {
                String takes = Arrays.toString(m.getParameterTypes());
                found.add(m.getReturnType() + " " + m.getName() + "(" + takes.substring(1, takes.length() - 1) + ")");
            }
        }
        return found;
    }

    private static String constructors() {
        StringBuilder found = new StringBuilder();
        for (Constructor<?> c : StageLines.class.getDeclaredConstructors()) {
            found.append(c);
        }
        return found.toString();
    }

    private static void checkInside() {
        checkPrivateNames(StageLines.class);
        checkStaticFields(StageLines.class);
        for (Class<?> inside : StageLines.class.getDeclaredClasses()) {
            CHECKS.due(inside + " is seen from outside", isSeenOutside(inside.getModifiers()) ? 1 : 0, 0);
            checkPrivateNames(inside);
            checkStaticFields(inside);
        }
    }

    private static boolean isSeenOutside(int modifiers) {
        return Modifier.isPublic(modifiers) || Modifier.isProtected(modifiers);
    }

    private static void checkPrivateNames(Class<?> owner) {
        for (Method m : owner.getDeclaredMethods()) {
            boolean taken = Modifier.isPrivate(m.getModifiers()) && Checks.faceNames().contains(m.getName());
            CHECKS.due(m + " is private and has a name of the face", taken ? 1 : 0, 0);
        }
    }

    private static void checkStaticFields(Class<?> owner) {
        for (Field f : owner.getDeclaredFields()) {
            boolean changes = Modifier.isStatic(f.getModifiers()) && !Modifier.isFinal(f.getModifiers());
            CHECKS.due(f + " is static and not final", changes ? 1 : 0, 0);
        }
    }
}
