import java.io.IOException;
import java.lang.reflect.Method;
import java.lang.reflect.Modifier;
import java.nio.file.DirectoryStream;
import java.nio.file.Files;
import java.nio.file.Path;
import java.util.Arrays;
import java.util.Set;
import java.util.TreeSet;
import java.util.regex.Matcher;
import java.util.regex.Pattern;

/** What README.md tells holds: its example's answers, its calls and their arguments, and the tests it names. */
public final class ReadmeTest {
    private static final Path README = Path.of("README.md");
    private static final Path TESTS = Path.of("src/test/java");
    private static final Pattern EXAMPLE = Pattern.compile("(?s)```java\n(.*?)```");
    private static final Pattern ASKED =
            Pattern.compile("exchange\\.(\\w+)\\(([^)]*)\\); +// (?:(-?\\d+|throws \\w+): )?\\S.*");
    private static final Pattern ROW = Pattern.compile("(?m)^\\| `(\\w+)\\(([^)]*)\\)` \\|(.*)$");

    private static final Checks c = new Checks();

    public static void main(String[] args) throws IOException {
        String text = Files.readString(README);
        example(text);
        calls(text);
        tests(text);
        c.end();
    }

    private static void example(String text) {
        Matcher example = EXAMPLE.matcher(text);
        c.due("an example stands: 1", example.find() ? 1 : 0, 1);
        String[] lines = example.group(1).split("\n");
        c.due("it begins with", lines[0], "Grainledger exchange = new Grainledger();");
        Grainledger x = new Grainledger();
        for (int i = 1; i < lines.length; i++) {
            answer(x, lines[i]);
        }
    }

    private static void answer(Grainledger x, String line) {
        Matcher asked = ASKED.matcher(line);
        c.due(line + " is of the form: 1", asked.matches() ? 1 : 0, 1);
        if (asked.matches()) {
            String outcome = Checks.outcome(() -> Calls.call(x, asked.group(1), numbers(asked.group(2))));
            String told = asked.group(3) == null ? "0" : asked.group(3).replace("throws ", "throws.");
            c.due(line, told, outcome);
            c.due(line + " tells no answer", asked.group(3) == null ? 1 : 0, asked.group(1).equals("terms") ? 1 : 0);
        }
    }

    private static int[] numbers(String arguments) {
        return arguments.isEmpty() ? new int[0]
                : Arrays.stream(arguments.split(", ")).mapToInt(Integer::parseInt).toArray();
    }

    private static void calls(String text) {
        Set<String> told = new TreeSet<>();
        Matcher row = ROW.matcher(text);
        while (row.find()) {
            int arguments = row.group(2).isEmpty() ? 0 : row.group(2).split(", ").length;
            told.add(row.group(1) + " " + arguments);
            c.due(row.group() + " has columns", row.group(3).split("\\|").length, 2);
        }
        Set<String> face = new TreeSet<>();
        for (Method method : Grainledger.class.getDeclaredMethods()) {
            if (Modifier.isPublic(method.getModifiers())) {
                face.add(method.getName() + " " + method.getParameterCount());
            }
        }
        c.due("the calls that are told", told.toString(), face.toString());
    }

    private static void tests(String text) throws IOException {
        Set<String> told = new TreeSet<>();
        Matcher name = Pattern.compile("`(\\w+Test)`").matcher(text);
        while (name.find()) {
            told.add(name.group(1) + ".java");
        }
        Set<String> there = new TreeSet<>();
        try (DirectoryStream<Path> files = Files.newDirectoryStream(TESTS, "*Test.java")) {
            files.forEach(file -> there.add(file.getFileName().toString()));
        }
        c.due("the tests that are told", told.toString(), there.toString());
    }
}
