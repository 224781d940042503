import java.io.IOException;
import java.lang.reflect.Method;
import java.lang.reflect.Modifier;
import java.nio.file.Files;
import java.nio.file.Path;
import java.util.HashMap;
import java.util.List;
import java.util.Map;
import java.util.Set;
import java.util.TreeSet;
import java.util.regex.Matcher;
import java.util.regex.Pattern;
import java.util.stream.Collectors;
import java.util.stream.Stream;

/**
 * README.md: each call of its example is made as it stands there, and answers what stands behind it;
 * its table names the tests that there are. Runs in the project's folder.
 */
public final class ReadmeTest {
    private static final Due DUE = new Due("ReadmeTest");
    private static final Path README = Path.of("README.md");
    private static final Path TESTS = Path.of("src/test/java");
    private static final String NEW = "BoughtAhead x = new BoughtAhead();";
    private static final Pattern CALL =
            Pattern.compile("(?:int (\\w+) = )?x\\.(\\w+)\\(([^()]*)\\); +// (true|false|-?\\d+): \\S.*");

    private final BoughtAhead x = new BoughtAhead();
    private final Map<String, Integer> names = new HashMap<>();
    private final Set<String> shown = new TreeSet<>();

    public static void main(String[] args) throws IOException, ReflectiveOperationException {
        String text = Files.readString(README);
        new ReadmeTest().example(exampleOf(text));
        testsAreNamed(text);
        DUE.end();
    }

    private static List<String> exampleOf(String text) {
        Matcher block = Pattern.compile("(?s)```java\n(.*?)```").matcher(text);
        DUE.yes("an example in README.md", block.find());
        List<String> lines = block.group(1).lines().toList();
        DUE.no("a second example, which nothing would hold", block.find());
        return lines;
    }

    private void example(List<String> lines) throws ReflectiveOperationException {
        DUE.yes("the example begins with a new object", lines.get(0).equals(NEW));
        for (String line : lines.subList(1, lines.size())) {
            Matcher call = CALL.matcher(line);
            DUE.yes("a call and its answer: " + line, call.matches());
            if (!call.matches()) {
                continue;
            }
            long got = answer(call.group(2), call.group(3));
            DUE.is(line, got, number(call.group(4)));
            if (call.group(1) != null) {
                names.put(call.group(1), (int) got);
            }
        }
        for (Method method : BoughtAhead.class.getDeclaredMethods()) {
            if (Modifier.isPublic(method.getModifiers())) {
                DUE.yes(method.getName() + " is shown", shown.contains(method.getName()));
            }
        }
    }

    private static long number(String answer) {
        return switch (answer) {
            case "true" -> 1;
            case "false" -> 0;
            default -> Long.parseLong(answer);
        };
    }

    private long answer(String name, String written) throws ReflectiveOperationException {
        String[] parts = written.split(", ");
        Class<?>[] types = new Class<?>[parts.length];
        Object[] numbers = new Object[parts.length];
        for (int i = 0; i < parts.length; i++) {
            types[i] = int.class;
            numbers[i] = names.containsKey(parts[i]) ? names.get(parts[i]) : Integer.decode(parts[i]);
        }
        shown.add(name);
        Object got = BoughtAhead.class.getMethod(name, types).invoke(x, numbers);
        return got instanceof Boolean yes ? (yes ? 1 : 0) : ((Number) got).longValue();
    }

    private static void testsAreNamed(String text) throws IOException {
        String table = text.substring(text.indexOf("| test |"));
        Set<String> named = new TreeSet<>();
        Matcher name = Pattern.compile("`(\\w+Test)`").matcher(table);
        while (name.find()) {
            named.add(name.group(1));
        }
        try (Stream<Path> files = Files.list(TESTS)) {
            Set<String> there = files.map(file -> file.getFileName().toString())
                    .filter(file -> file.endsWith("Test.java"))
                    .map(file -> file.substring(0, file.length() - ".java".length()))
                    .collect(Collectors.toCollection(TreeSet::new));
            DUE.yes("the tests there are, " + there + ", are those of the table, " + named, there.equals(named));
        }
    }
}
