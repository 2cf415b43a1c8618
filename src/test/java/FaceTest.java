import java.lang.reflect.Constructor;
import java.lang.reflect.Field;
import java.lang.reflect.Method;
import java.lang.reflect.Modifier;
import java.util.Arrays;
import java.util.Set;
import java.util.TreeSet;

/** The public face is the document's and no more (rule 1 of LANGUAGE.md, and rule 5 on static state). */
public final class FaceTest {
    private static final Checks CHECKS = new Checks();

    private static final String[] FACE = {
        "int put(int)", "int empty()", "void source(int, int, int, int)", "int stage(int, int, int)",
        "int flags()", "int run(int, int, int)", "void pool(int, int, int)", "int parts(int, int, int)",
        "int seen(int)", "int kept(int)", "int pooled(int)"};

    public static void main(String[] args) {
        CHECKS.due("modifiers of the class", Modifier.toString(StageLines.class.getModifiers()), "public final");
        CHECKS.due("the methods", visibleMethods().toString(), new TreeSet<>(Arrays.asList(FACE)).toString());
        CHECKS.due("the constructors", constructors(), "public StageLines()");
        for (Field f : StageLines.class.getDeclaredFields()) {
            CHECKS.due(f + " is private", Modifier.isPrivate(f.getModifiers()) ? 1 : 0, 1);
        }
        checkInside();
        CHECKS.end();
    }

    private static Set<String> visibleMethods() {
        Set<String> found = new TreeSet<>();
        for (Method m : StageLines.class.getDeclaredMethods()) {
            if (!Modifier.isPrivate(m.getModifiers())) {
                String takes = Arrays.toString(m.getParameterTypes());
                found.add(m.getReturnType() + " " + m.getName() + "(" + takes.substring(1, takes.length() - 1) + ")");
            }
        }
        return found;
    }

    private static String constructors() {
        StringBuilder found = new StringBuilder();
        for (Constructor<?> c : StageLines.class.getDeclaredConstructors()) {
            found.append(c);
        }
        return found.toString();
    }

    private static void checkInside() {
        Set<String> names = new TreeSet<>();
        for (Method m : StageLines.class.getDeclaredMethods()) {
            if (Modifier.isPublic(m.getModifiers())) {
                names.add(m.getName());
            }
        }
        for (Class<?> inside : StageLines.class.getDeclaredClasses()) {
            CHECKS.due(inside + " is static", Modifier.isStatic(inside.getModifiers()) ? 1 : 0, 1);
            for (Method m : inside.getDeclaredMethods()) {
                CHECKS.due(m + " has a name of the face", names.contains(m.getName()) ? 1 : 0, 0);
            }
            for (Field f : inside.getDeclaredFields()) {
                CHECKS.due(f + " is static", Modifier.isStatic(f.getModifiers()) ? 1 : 0, 0);
            }
        }
        for (Field f : StageLines.class.getDeclaredFields()) {
            if (Modifier.isStatic(f.getModifiers())) {
                CHECKS.due(f + " is final", Modifier.isFinal(f.getModifiers()) ? 1 : 0, 1);
            }
        }
    }
}
