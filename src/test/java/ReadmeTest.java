import java.io.File;
import java.io.IOException;
import java.lang.reflect.InvocationTargetException;
import java.lang.reflect.Method;
import java.lang.reflect.Modifier;
import java.nio.file.Files;
import java.nio.file.Path;
import java.util.Arrays;
import java.util.List;
import java.util.Set;
import java.util.TreeSet;
import java.util.regex.Matcher;
import java.util.regex.Pattern;

/** README.md tells the truth: its example answers as it says there, and it names every call and every test. */
public final class ReadmeTest {
    private static final Checks CHECKS = new Checks();
    private static final Pattern CALL = Pattern.compile("x\\.(\\w+)\\((.*)\\); *// (.*)");
    private static final Pattern ANSWER = Pattern.compile("(-?\\d+|throws \\w+)(:.*)?");

    public static void main(String[] args) throws IOException {
        List<String> readme = Files.readAllLines(Path.of("README.md"));
        checkExample(readme);
        checkTableOfCalls(readme);
        checkTablesOfTests(readme);
        CHECKS.end();
    }

    private static void checkExample(List<String> readme) {
        StageLines x = new StageLines();
        Set<String> called = new TreeSet<>();
        for (String row : readme) {
            Matcher call = CALL.matcher(row);
            if (call.matches()) {
                CHECKS.due(row, answered(x, call.group(1), call.group(2)), written(call.group(3)));
                called.add(call.group(1));
            }
        }
        CHECKS.due("the calls of the example", called.toString(), Checks.faceNames().toString());
    }

    /** A call that answers nothing has words alone behind it. */
    private static String written(String comment) {
        Matcher answer = ANSWER.matcher(comment);
        return answer.matches() ? answer.group(1) : "nothing";
    }

    private static String answered(StageLines x, String name, String arguments) {
        Integer[] numbers = arguments.isEmpty() ? new Integer[0]
            : Arrays.stream(arguments.split(", ")).map(Integer::valueOf).toArray(Integer[]::new);
        Class<?>[] types = new Class<?>[numbers.length];
        Arrays.fill(types, int.class);
        try {
            Object answer = StageLines.class.getMethod(name, types).invoke(x, (Object[]) numbers);
            return answer == null ? "nothing" : answer.toString();
        } catch (InvocationTargetException e) {
            return "throws " + e.getCause().getClass().getSimpleName();
        } catch (ReflectiveOperationException e) {
            return "no such call";
        }
    }

    /** Each call has a row, and what the call throws stands in its last column. */
    private static void checkTableOfCalls(List<String> readme) {
        for (Method m : StageLines.class.getDeclaredMethods()) {
            if (Modifier.isPublic(m.getModifiers())) {
                String row = rowThatBegins(readme, "| `" + m.getName() + "(");
                CHECKS.due(m.getName() + " has a row", row.isEmpty() ? 0 : 1, 1);
                boolean asRun = row.contains("| as `run`");
                for (Class<?> thrown : m.getExceptionTypes()) {
                    boolean told = asRun || row.contains("`" + thrown.getSimpleName() + "`");
                    CHECKS.due(m.getName() + " is told to throw " + thrown.getSimpleName(), told ? 1 : 0, 1);
                }
            }
        }
    }

    private static void checkTablesOfTests(List<String> readme) {
        String[] files = new File("src/test/java").list((folder, name) -> name.endsWith("Test.java"));
        CHECKS.due("there are tests", files != null && files.length > 0 ? 1 : 0, 1);
        for (String file : files == null ? new String[0] : files) {
            String row = rowThatBegins(readme, "| `" + file.replace(".java", "") + "` |");
            CHECKS.due(file + " has a row", row.isEmpty() ? 0 : 1, 1);
        }
    }

    private static String rowThatBegins(List<String> readme, String beginning) {
        return readme.stream().filter(row -> row.startsWith(beginning)).findFirst().orElse("");
    }
}
