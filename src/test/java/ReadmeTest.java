import java.io.IOException;
import java.lang.reflect.Method;
import java.lang.reflect.Modifier;
import java.nio.file.Files;
import java.nio.file.Path;
import java.util.Set;
import java.util.TreeSet;
import java.util.regex.Matcher;
import java.util.regex.Pattern;
import java.util.stream.Collectors;
import java.util.stream.Stream;

/** README.md is right for the class and the tests as they stand. */
public final class ReadmeTest {
    private static final Check check = new Check("ReadmeTest");
    private static final Path TESTS = Path.of("src/test/java");

    private ReadmeTest() {
    }

    public static void main(String[] args) throws Exception {
        String page = Files.readString(Path.of("README.md"));
        example(between(page, "```java\n", "```"));
        same("the calls in the table", namesInTable(page, "| Calls |"), callsOfTheClass());
        same("the tests in the table", namesInTable(page, "| Test |"), testsOfTheProject());
        check.end();
    }

    /** Each line that makes a call says its answer, which the class must give. */
    private static void example(String code) throws Exception {
        ThatchCoats x = new ThatchCoats();
        Check.type(x, between(code, "\"", "\""));
        int calls = 0;
        for (String line : code.split("\n")) {
            Matcher m = Pattern.compile("x\\.(\\w+)\\(([-0-9, ]*)\\);\\s+// (-?\\d+): .*").matcher(line);
            if (m.matches()) {
                calls++;
                check.due(0, line, answer(x, m.group(1), m.group(2)), Integer.parseInt(m.group(3)));
            } else if (line.startsWith("x.")) {
                check.fail("no answer is told: " + line);
            }
        }
        check.due(0, "README.md shows calls", calls > 0 ? 1 : 0, 1);
    }

    private static int answer(ThatchCoats x, String name, String listed) throws Exception {
        String[] numbers = listed.isEmpty() ? new String[0] : listed.split(", *");
        for (Method m : ThatchCoats.class.getMethods()) {
            if (m.getName().equals(name) && m.getParameterCount() == numbers.length) {
                Object[] values = new Object[numbers.length];
                for (int i = 0; i < numbers.length; i++) {
                    boolean wide = m.getParameterTypes()[i] == long.class;
                    values[i] = wide ? (Object) Long.valueOf(numbers[i]) : (Object) Integer.valueOf(numbers[i]);
                }
                return (Integer) m.invoke(x, values);
            }
        }
        check.fail("there is no call " + name + " of " + numbers.length);
        return Integer.MIN_VALUE;
    }

    private static Set<String> callsOfTheClass() {
        return Stream.of(ThatchCoats.class.getDeclaredMethods())
            .filter(m -> Modifier.isPublic(m.getModifiers()))
            .map(Method::getName)
            .collect(Collectors.toCollection(TreeSet::new));
    }

    private static Set<String> testsOfTheProject() throws IOException {
        try (Stream<Path> files = Files.list(TESTS)) {
            return files.map(f -> f.getFileName().toString())
                .filter(f -> f.endsWith("Test.java"))
                .map(f -> f.substring(0, f.length() - ".java".length()))
                .collect(Collectors.toCollection(TreeSet::new));
        }
    }

    /** What stands in `quotes` in the first column of the table under that heading. */
    private static Set<String> namesInTable(String page, String heading) {
        Set<String> names = new TreeSet<>();
        for (String row : between(page, heading, "\n\n").split("\n")) {
            Matcher m = Pattern.compile("`(\\w+)`").matcher(row.startsWith("|") ? row.split("\\|")[1] : "");
            while (m.find()) {
                if (!names.add(m.group(1))) {
                    check.fail("README.md has " + m.group(1) + " twice under " + heading);
                }
            }
        }
        return names;
    }

    private static String between(String text, String from, String to) {
        int start = text.indexOf(from);
        int end = start < 0 ? -1 : text.indexOf(to, start + from.length());
        if (end < 0) {
            check.fail("README.md has no " + from.trim());
            return "";
        }
        return text.substring(start + from.length(), end);
    }

    private static void same(String what, Set<String> got, Set<String> want) {
        check.due(0, what + " " + got + " / " + want, got.equals(want) ? 1 : 0, 1);
    }
}
