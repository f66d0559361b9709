import java.io.IOException;
import java.lang.reflect.InvocationTargetException;
import java.lang.reflect.Method;
import java.lang.reflect.Modifier;
import java.nio.file.Files;
import java.nio.file.Path;
import java.util.Arrays;
import java.util.List;
import java.util.Map;
import java.util.TreeMap;
import java.util.regex.Matcher;
import java.util.regex.Pattern;

/** What README.md says of the class holds: the answers of its example, and the calls of its table. */
public final class ReadmeTest {
    private static final Pattern EXAMPLE =
            Pattern.compile("(?:int call = )?forker\\.(\\w+)\\((.*?)\\);\\s*// (-?\\d+|throws \\w+)(?::.*)?");
    private static final Pattern TABLE = Pattern.compile("\\| `(\\w+)\\((.*?)\\)` \\|.*\\| ?([^|]*)\\|");
    private static final Map<String, String> WORDS = Map.of("argument", "IllegalArgumentException",
            "index", "IndexOutOfBoundsException", "state", "IllegalStateException");

    private ReadmeTest() {
    }

    public static void main(String[] arguments) throws IOException {
        Checks checks = new Checks("ReadmeTest");
        List<String> lines = Files.readAllLines(Path.of("README.md"));
        checkExample(checks, lines);
        checkTable(checks, lines);
        checks.end();
    }

    private static void checkExample(Checks checks, List<String> lines) {
        int from = lines.indexOf("```java");
        int to = lines.indexOf("```");
        CallForker forker = new CallForker();
        for (String line : lines.subList(from + 1, to)) {
            Matcher told = EXAMPLE.matcher(line);
            if (told.matches()) {
                checks.same("README.md: " + line, outcome(forker, told.group(1), told.group(2)), told.group(3));
            } else {
                checks.same("a line without an answer", line.isEmpty() ? "" : line,
                        line.isEmpty() ? "" : "CallForker forker = new CallForker();");
            }
        }
    }

    private static String outcome(CallForker forker, String name, String given) {
        // The example's only call has the number 0.
        Object[] arguments = Arrays.stream(given.split(", ")).map(one -> one.equals("call") ? "0" : one)
                .map(Integer::valueOf).toArray();
        Class<?>[] types = new Class<?>[arguments.length];
        Arrays.fill(types, int.class);
        try {
            return String.valueOf(CallForker.class.getMethod(name, types).invoke(forker, arguments));
        } catch (InvocationTargetException thrown) {
            return "throws " + thrown.getCause().getClass().getSimpleName();
        } catch (ReflectiveOperationException missing) {
            return "no such call";
        }
    }

    private static void checkTable(Checks checks, List<String> lines) {
        Map<String, String> told = new TreeMap<>();
        for (String line : lines) {
            Matcher row = TABLE.matcher(line);
            if (row.matches()) {
                int parameters = row.group(2).isEmpty() ? 0 : row.group(2).split(", ").length;
                told.put(row.group(1), parameters + thrown(row.group(3)));
            }
        }
        Map<String, String> due = new TreeMap<>();
        for (Method method : CallForker.class.getDeclaredMethods()) {
            if (Modifier.isPublic(method.getModifiers())) {
                StringBuilder row = new StringBuilder().append(method.getParameterCount());
                Arrays.stream(method.getExceptionTypes()).forEach(one -> row.append(' ').append(one.getSimpleName()));
                due.put(method.getName(), row.toString());
            }
        }
        checks.same("the table of README.md", told.toString(), due.toString());
    }

    /** The exceptions of a row such as "index, state: it has ended", in their order. */
    private static String thrown(String told) {
        StringBuilder row = new StringBuilder();
        for (String word : told.split(":")[0].trim().split(", ")) {
            if (!word.isEmpty()) {
                row.append(' ').append(WORDS.getOrDefault(word, word));
            }
        }
        return row.toString();
    }
}
