import java.io.IOException;
import java.lang.reflect.Method;
import java.nio.file.Files;
import java.nio.file.Path;
import java.util.ArrayList;
import java.util.List;
import java.util.regex.Matcher;
import java.util.regex.Pattern;

/** README.md: each call of its example answers what stands behind it, and its table is right. */
public final class ReadmeTest {
    private static final Pattern CALL = Pattern.compile("field\\.(\\w+)\\(([^)]*)\\);\\s+// (-?\\d+)(:.*)?");
    private static final Pattern ROW = Pattern.compile("\\| (-\\d+) \\| (`FurrowField\\.(\\w+)`|finding (\\d), (\\w+)) \\|.*");

    public static void main(String[] args) throws Exception {
        String text = Files.readString(Path.of("README.md"));
        example(text);
        table(text);
        testsAreNamed(text);
        Checks.end();
    }

    private static void example(String text) throws ReflectiveOperationException {
        FurrowField field = null;
        int calls = 0;
        for (String line : block(text)) {
            if (line.equals("FurrowField field = new FurrowField();")) {
                field = new FurrowField();
            } else if (!line.isBlank()) {
                Matcher m = CALL.matcher(line);
                Checks.isTrue("README.md: a call and its answer: " + line, m.matches());
                if (m.matches()) {
                    Checks.due("README.md: " + line, answer(field, m.group(1), m.group(2)), Long.parseLong(m.group(3)));
                    calls++;
                }
            }
        }
        Checks.isTrue("README.md has an example of no more than 512 calls", calls > 0 && calls <= 512);
    }

    private static List<String> block(String text) {
        String opens = "```java\n";
        int from = text.indexOf(opens);
        int to = text.indexOf("```\n", from + opens.length());
        return from < 0 || to < 0 ? List.of() : List.of(text.substring(from + opens.length(), to).split("\n"));
    }

    private static long answer(FurrowField field, String name, String numbers) throws ReflectiveOperationException {
        for (Method m : FurrowField.class.getMethods()) {
            if (m.getName().equals(name) && m.getDeclaringClass() == FurrowField.class) {
                return ((Number) m.invoke(field, given(m, numbers))).longValue();
            }
        }
        throw new NoSuchMethodException(name);
    }

    private static Object[] given(Method m, String numbers) {
        List<Object> given = new ArrayList<>();
        for (String number : numbers.isBlank() ? new String[0] : numbers.split(", ")) {
            boolean isLong = m.getParameterTypes()[given.size()] == long.class;
            given.add(isLong ? (Object) Long.valueOf(number) : (Object) Integer.valueOf(number));
        }
        return given.toArray();
    }

    private static void table(String text) throws ReflectiveOperationException {
        int rows = 0;
        for (String line : text.split("\n")) {
            Matcher m = ROW.matcher(line);
            if (m.matches()) {
                rows++;
                long due = m.group(3) != null
                    ? FurrowField.class.getField(m.group(3)).getInt(null)
                    : Checks.class.getDeclaredField(m.group(5)).getInt(null);
                Checks.due("README.md: " + line, Long.parseLong(m.group(1)), due);
                Checks.isTrue("README.md: the number of the FINDING: " + line,
                    m.group(4) == null || due == -1000010 - Integer.parseInt(m.group(4)));
            }
        }
        Checks.due("README.md: rows of the table", rows, 8);
    }

    private static void testsAreNamed(String text) throws IOException {
        try (var files = Files.list(Path.of("src/test/java"))) {
            files.map(file -> file.getFileName().toString())
                .filter(name -> name.endsWith("Test.java"))
                .map(name -> name.substring(0, name.length() - 5))
                .forEach(name -> Checks.isTrue("README.md names " + name, text.contains("`" + name + "`")));
        }
    }
}
