import java.io.IOException;
import java.lang.reflect.Method;
import java.nio.file.Files;
import java.nio.file.Path;
import java.util.List;
import java.util.Set;
import java.util.TreeSet;
import java.util.regex.Matcher;
import java.util.regex.Pattern;
import java.util.stream.Collectors;
import java.util.stream.Stream;

/** README.md holds: the calls of its examples answer as it tells, and it names every test that there is. */
public final class ReadmeTest {
    private static final Path README = Path.of("README.md");
    private static final Path TESTS = Path.of("src/test/java");
    private static final String MAKING = "KingTable t = new KingTable();";
    private static final Pattern CALL = Pattern.compile("t\\.(\\w+)\\(([^)]*)\\); +// (-?\\d+|true|false)(: .+)?");
    private static final Check CHECK = new Check();

    public static void main(String[] args) throws Exception {
        List<String> lines = Files.readAllLines(README);
        examples(lines);
        testsAreNamed(lines);
        CHECK.due("it tells how the tests are run", true, lines.contains(".ci/run"));
        CHECK.end();
    }

    private static void examples(List<String> lines) throws ReflectiveOperationException {
        KingTable table = null;
        boolean inside = false;
        int calls = 0;
        for (String line : lines) {
            if (line.startsWith("```")) {
                inside = line.equals("```java");
                table = null;
            } else if (inside && line.equals(MAKING)) {
                table = new KingTable();
            } else if (inside) {
                Matcher call = CALL.matcher(line);
                boolean told = call.matches() && table != null;
                CHECK.due("a call with its answer, on an object: " + line, true, told);
                if (told) {
                    String got = String.valueOf(answer(table, call.group(1), call.group(2)));
                    CHECK.same(line, List.of(call.group(3)), List.of(got));
                    calls++;
                }
            }
        }
        CHECK.due("calls in its examples", true, calls >= 20);
    }

    private static Object answer(KingTable table, String name, String args) throws ReflectiveOperationException {
        String[] told = args.isEmpty() ? new String[0] : args.split(", ");
        for (Method method : KingTable.class.getDeclaredMethods()) {
            if (method.getName().equals(name) && method.getParameterCount() == told.length) {
                Object[] values = new Object[told.length];
                for (int i = 0; i < told.length; i++) {
                    boolean isNumber = method.getParameterTypes()[i] == int.class;
                    values[i] = isNumber ? (Object) Integer.decode(told[i]) : (Object) Boolean.valueOf(told[i]);
                }
                return method.invoke(table, values);
            }
        }
        return "no such method";
    }

    private static void testsAreNamed(List<String> lines) throws IOException {
        Set<String> there;
        try (Stream<Path> files = Files.list(TESTS)) {
            there = files.map(file -> file.getFileName().toString()).filter(name -> name.endsWith("Test.java"))
                .map(name -> name.replace(".java", "")).collect(Collectors.toCollection(TreeSet::new));
        }
        Set<String> named = new TreeSet<>();
        for (String line : lines) {
            Matcher names = Pattern.compile("\\w+Test\\b").matcher(line.startsWith("| ") ? line.split("\\|")[1] : "");
            while (names.find()) {
                named.add(names.group());
            }
        }
        CHECK.same("tests in its table", List.copyOf(there), List.copyOf(named));
    }
}
