import java.io.IOException;
import java.lang.reflect.Method;
import java.lang.reflect.Modifier;
import java.nio.file.Files;
import java.nio.file.Path;
import java.util.List;
import java.util.Set;
import java.util.TreeSet;
import java.util.regex.Matcher;
import java.util.regex.Pattern;
import java.util.stream.Stream;

/** What README.md says is what the class does: its calls are made, and its tables leave nothing out. */
final class ReadmeTest {
    private static final Path README = Path.of("README.md");
    private static final Path TESTS = Path.of("src/test/java");

    private static final Pattern BLOCK = Pattern.compile("(?s)```java\n(.*?)```");
    private static final Pattern CALL = Pattern.compile("x\\.(\\w+)\\(([^)]*)\\); +// (true|false|-?\\d+)(:.*)?");
    private static final Pattern METHOD_ROW = Pattern.compile("(?m)^\\| `(\\w+)\\([^)]*\\)` \\|");
    private static final Pattern TEST_ROW = Pattern.compile("(?m)^\\| `(\\w+Test)` \\|");
    private static final Pattern SENTENCE = Pattern.compile("(?m)^\\| (?:\\d+: )?(\".*\") \\| (.*) \\|$");
    private static final Pattern QUOTED = Pattern.compile("`([\\w.]+)`");
    private static final Check check = new Check();

    public static void main(String[] args) throws IOException, ReflectiveOperationException {
        String text = Files.readString(README);
        callsAnswerAsSaid(text);
        everyMethodHasARow(text);
        everyTestHasARow(text);
        namedTestsStand(text);
        check.end();
    }

    private static void callsAnswerAsSaid(String text) throws ReflectiveOperationException {
        Set<String> made = new TreeSet<>();
        for (Matcher block = BLOCK.matcher(text); block.find();) {
            List<String> lines = block.group(1).lines().toList();
            check.due("begins with a new object: " + lines.get(0),
                    lines.get(0).equals("PointColours x = new PointColours();"), true);
            PointColours x = new PointColours();
            for (String line : lines.subList(1, lines.size())) {
                made.add(callAnswersAsSaid(x, line));
            }
        }
        same("methods called", made, publicMethods());
    }

    private static String callAnswersAsSaid(PointColours x, String line) throws ReflectiveOperationException {
        Matcher call = CALL.matcher(line);
        if (!call.matches()) {
            check.due("a call with its answer: " + line, false, true);
            return line;
        }
        Object[] given = Stream.of(call.group(2).split(", ")).filter(s -> !s.isEmpty()).map(Integer::valueOf).toArray();
        Class<?>[] types = Stream.of(given).map(g -> int.class).toArray(Class<?>[]::new);
        Object got = PointColours.class.getMethod(call.group(1), types).invoke(x, given);
        check.due(line + " (it answers " + got + ")", got.toString().equals(call.group(3)), true);
        return call.group(1);
    }

    private static void everyMethodHasARow(String text) {
        same("methods of the table", found(METHOD_ROW, text), publicMethods());
    }

    private static void everyTestHasARow(String text) throws IOException {
        Set<String> due = new TreeSet<>();
        try (Stream<Path> files = Files.list(TESTS)) {
            files.map(f -> f.getFileName().toString()).filter(f -> f.endsWith("Test.java"))
                    .forEach(f -> due.add(f.substring(0, f.length() - ".java".length())));
        }
        same("tests of the table", found(TEST_ROW, text), due);
    }

    /** Each sentence has a test, "tests: methods"; two dots in a name stand for anything. */
    private static void namedTestsStand(String text) throws IOException {
        check.due("there are sentences", SENTENCE.matcher(text).find(), true);
        for (Matcher row = SENTENCE.matcher(text); row.find();) {
            String[] parts = row.group(2).split(": ");
            check.due("tests and methods for " + row.group(1), parts.length, 2);
            for (String test : found(QUOTED, parts[0])) {
                runsAll(test, found(QUOTED, parts[parts.length - 1]));
            }
        }
    }

    private static void runsAll(String test, Set<String> names) throws IOException {
        String code = Files.readString(TESTS.resolve(test + ".java"));
        check.due(test + " is named with methods", names.isEmpty(), false);
        for (String name : names) {
            Pattern called = Pattern.compile("(?m)^        " + name.replace("..", "\\w+") + "\\(\\);$");
            check.due(test + " runs " + name, called.matcher(code).find(), true);
        }
    }

    private static Set<String> publicMethods() {
        Set<String> names = new TreeSet<>();
        for (Method method : PointColours.class.getDeclaredMethods()) {
            if (Modifier.isPublic(method.getModifiers())) {
                names.add(method.getName());
            }
        }
        return names;
    }

    private static Set<String> found(Pattern pattern, String text) {
        Set<String> names = new TreeSet<>();
        for (Matcher next = pattern.matcher(text); next.find();) {
            names.add(next.group(1));
        }
        return names;
    }

    private static void same(String what, Set<String> got, Set<String> due) {
        check.due(what + " " + got + ", due are " + due, got.equals(due), true);
    }
}
