import java.io.IOException;
import java.lang.reflect.Method;
import java.lang.reflect.Modifier;
import java.nio.file.Files;
import java.nio.file.Path;
import java.util.Arrays;
import java.util.List;
import java.util.TreeSet;
import java.util.regex.MatchResult;
import java.util.regex.Pattern;
import java.util.stream.Stream;

/** README.md tells the truth: its example answers so, and what it names is there. */
public final class ReadmeTest {
    private static final Path README = Path.of("README.md");
    private static final Path TESTS = Path.of("src/test/java");

    private ReadmeTest() {
    }

    public static void main(String[] args) throws IOException, ReflectiveOperationException {
        Check.title("README.md");
        String readme = Files.readString(README);
        example(readme);
        calls(readme);
        tests(readme);
        Check.end();
    }

    private static void example(String readme) throws ReflectiveOperationException {
        ChairCredits box = new ChairCredits();
        List<MatchResult> lines = found("(?m)^box\\.(\\w+)\\((.*)\\); +// (-?\\d+|[A-Z_]+)(:|$)", readme);
        Check.due("calls in the example", lines.size(), found("(?m)^box\\.", readme).size());
        Check.holds("an example", !lines.isEmpty());
        for (MatchResult line : lines) {
            String[] words = line.group(2).isEmpty() ? new String[0] : line.group(2).split(", ");
            Object[] values = Arrays.stream(words).map(ReadmeTest::value).toArray();
            Object answer = method(line.group(1)).invoke(box, values);
            Check.due(line.group(), (Integer) answer, answer(line.group(3)));
        }
    }

    private static Object value(String word) {
        return word.startsWith("'") ? (Object) word.charAt(1) : (Object) Integer.parseInt(word);
    }

    private static int answer(String word) throws ReflectiveOperationException {
        boolean isNamed = Character.isLetter(word.charAt(0));
        return isNamed ? ChairCredits.class.getField(word).getInt(null) : Integer.parseInt(word);
    }

    private static Method method(String name) {
        return openMethods().filter(m -> m.getName().equals(name)).findFirst().orElseThrow();
    }

    private static Stream<Method> openMethods() {
        return Arrays.stream(ChairCredits.class.getDeclaredMethods()).filter(m -> Modifier.isPublic(m.getModifiers()));
    }

    /** The table has a place for each call. */
    private static void calls(String readme) {
        TreeSet<String> told = new TreeSet<>();
        for (MatchResult row : found("(?m)^\\| (`.*`) \\|", readme)) {
            found("`(\\w+)`", row.group(1)).forEach(name -> told.add(name.group(1)));
        }
        TreeSet<String> there = new TreeSet<>();
        openMethods().forEach(m -> there.add(m.getName()));
        Check.holds("the calls are those of the class: " + told, told.equals(there));
    }

    private static void tests(String readme) throws IOException {
        try (Stream<Path> files = Files.list(TESTS)) {
            for (Path file : files.toList()) {
                String name = file.getFileName().toString().replace(".java", "");
                boolean isTest = name.endsWith("Test") || name.endsWith("Edges");
                Check.holds("it names " + name, !isTest || readme.contains("`" + name + "`"));
            }
        }
        for (MatchResult name : found("`(\\w+(Test|Edges))`", readme)) {
            Check.holds("there is " + name.group(1), Files.exists(TESTS.resolve(name.group(1) + ".java")));
        }
        Check.holds("it says how to run them", Files.isExecutable(Path.of(".ci/run")) && readme.contains("\n.ci/run\n"));
    }

    private static List<MatchResult> found(String pattern, String text) {
        return Pattern.compile(pattern).matcher(text).results().toList();
    }
}
