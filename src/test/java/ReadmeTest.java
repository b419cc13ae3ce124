import java.io.IOException;
import java.lang.reflect.InvocationTargetException;
import java.lang.reflect.Method;
import java.lang.reflect.Modifier;
import java.nio.file.DirectoryStream;
import java.nio.file.Files;
import java.nio.file.Path;
import java.util.Arrays;
import java.util.HashMap;
import java.util.List;
import java.util.Map;
import java.util.Set;
import java.util.TreeSet;
import java.util.regex.Matcher;
import java.util.regex.Pattern;

/** What README.md says is so: its examples are called as they stand there, its tables are complete. */
public final class ReadmeTest {
    private static final Pattern CALL =
            Pattern.compile("(?:int (\\w+) = )?validator\\.(\\w+)\\((.*)\\);(?: +// (?:throws )?(-?\\w+).*)?");
    private static final Pattern CALL_ROW = Pattern.compile("\\| `(\\w+)\\((.*)\\)` \\| .+ \\|(.*)\\|");
    private static final Pattern THROWN = Pattern.compile("`(\\w+Exception)`");
    private static final Pattern TEST_ROW = Pattern.compile("\\| `(\\w+Test)` \\| .+ \\|");

    private final Check check = new Check();
    private final PatternValidator validator = new PatternValidator();
    private final Map<String, Integer> named = new HashMap<>();

    private ReadmeTest() {
    }

    public static void main(String[] args) throws IOException {
        List<String> lines = Files.readAllLines(Path.of("README.md"));
        ReadmeTest test = new ReadmeTest();
        test.examplesAnswerAsTold(lines);
        test.callsAreThoseOfTheClass(lines);
        test.testsAreThoseOfTheProject(lines);
        test.check.end();
    }

    private void examplesAnswerAsTold(List<String> lines) {
        boolean inside = false;
        int answers = 0;
        for (String line : lines) {
            if (line.startsWith("```")) {
                inside = line.equals("```java");
            } else if (inside && isCode(line)) {
                answers += call(line);
            }
        }
        check.holds("the examples tell answers", answers > 0);
    }

    private static boolean isCode(String line) {
        return !line.isEmpty() && !line.startsWith("//") && !line.equals("PatternValidator validator = new PatternValidator();");
    }

    /** Answers how many answers the line told. */
    private int call(String line) {
        Matcher found = CALL.matcher(line);
        check.holds("a line of the form that this test knows: " + line, found.matches());
        if (!found.matches()) {
            return 0;
        }
        String got = told(found.group(2), found.group(3));
        if (found.group(1) != null) {
            named.put(found.group(1), Integer.valueOf(got));
            return 0;
        }
        check.same(line, String.valueOf(found.group(4)), got);
        return 1;
    }

    private String told(String name, String arguments) {
        Integer[] values = values(arguments);
        Class<?>[] types = new Class<?>[values.length];
        Arrays.fill(types, int.class);
        try {
            return String.valueOf(PatternValidator.class.getMethod(name, types).invoke(validator, (Object[]) values));
        } catch (InvocationTargetException thrown) {
            return thrown.getCause().getClass().getSimpleName();
        } catch (ReflectiveOperationException missing) {
            return "no such call";
        }
    }

    private Integer[] values(String arguments) {
        if (arguments.isEmpty()) {
            return new Integer[0];
        }
        String[] parts = arguments.split(", ");
        Integer[] values = new Integer[parts.length];
        for (int i = 0; i < parts.length; i++) {
            values[i] = named.containsKey(parts[i]) ? named.get(parts[i]) : Integer.valueOf(parts[i]);
        }
        return values;
    }

    /** Each call once, with as many arguments as it takes and, in this order, what it throws. */
    private void callsAreThoseOfTheClass(List<String> lines) {
        Set<String> due = new TreeSet<>();
        for (Method method : PatternValidator.class.getDeclaredMethods()) {
            if (Modifier.isPublic(method.getModifiers())) {
                StringBuilder thrown = new StringBuilder();
                for (Class<?> type : method.getExceptionTypes()) {
                    thrown.append(' ').append(type.getSimpleName());
                }
                due.add(method.getName() + " " + method.getParameterCount() + thrown);
            }
        }
        Set<String> got = new TreeSet<>();
        for (String line : lines) {
            Matcher row = CALL_ROW.matcher(line);
            if (row.matches()) {
                StringBuilder thrown = new StringBuilder();
                for (Matcher one = THROWN.matcher(row.group(3)); one.find();) {
                    thrown.append(' ').append(one.group(1));
                }
                int arguments = row.group(2).isEmpty() ? 0 : row.group(2).split(", ").length;
                check.holds("told once: " + line, got.add(row.group(1) + " " + arguments + thrown));
            }
        }
        check.same("the calls", due.toString(), got.toString());
    }

    private void testsAreThoseOfTheProject(List<String> lines) throws IOException {
        Set<String> due = new TreeSet<>();
        try (DirectoryStream<Path> files = Files.newDirectoryStream(Path.of("src/test/java"), "*Test.java")) {
            for (Path file : files) {
                due.add(file.getFileName().toString().replace(".java", ""));
            }
        }
        Set<String> got = new TreeSet<>();
        for (String line : lines) {
            Matcher row = TEST_ROW.matcher(line);
            if (row.matches()) {
                check.holds("told once: " + line, got.add(row.group(1)));
            }
        }
        check.same("the tests", due.toString(), got.toString());
    }
}
