import java.io.IOException;
import java.lang.reflect.Field;
import java.nio.charset.StandardCharsets;
import java.nio.file.Files;
import java.nio.file.Path;
import java.util.List;
import java.util.regex.Matcher;
import java.util.regex.Pattern;
import java.util.stream.Collectors;
import java.util.stream.Stream;

/** README.md names what there is, and the calls of its example answer what stands behind them. */
public final class ReadmeTest {
    private static final Pattern EXAMPLE = Pattern.compile("(?s)```java\n(.*?)```");
    private static final Pattern CALL = Pattern.compile("p\\.(\\w+)\\((.*)\\); +// (-?\\d+)\\b.*");
    private static final Pattern METHOD = Pattern.compile("(?m)^    public int (\\w+\\([^)]*\\)) \\{");

    public static void main(String[] args) throws Exception {
        String page = Files.readString(Path.of("README.md"), StandardCharsets.UTF_8);
        exampleAnswersAsItSays(page);
        eachMethodIsNamed(page);
        eachConstantIsNamed(page);
        eachTestIsNamed(page);
        Check.end();
    }

    private static void exampleAnswersAsItSays(String page) {
        Matcher example = EXAMPLE.matcher(page);
        Check.holds("an example", example.find());
        Calls calls = null;
        int played = 0;
        for (String line : example.group(1).split("\n")) {
            Matcher call = CALL.matcher(line);
            if (line.endsWith("p = new StepperPlanner();")) {
                calls = new Calls(new StepperPlanner());
            } else if (call.matches() && calls != null) {
                calls.go(call.group(1) + "(" + call.group(2).replace(" ", "") + ")=" + call.group(3));
                played++;
            } else {
                Check.holds("a call and its answer: " + line, line.isEmpty());
            }
        }
        Check.holds("calls in the example", played > 0);
    }

    private static void eachMethodIsNamed(String page) throws IOException {
        String source = Files.readString(Path.of("src/main/java/StepperPlanner.java"), StandardCharsets.UTF_8);
        Matcher method = METHOD.matcher(source);
        int named = 0;
        while (method.find()) {
            Check.holds("README.md names " + method.group(1), page.contains("| `" + method.group(1) + "`"));
            named++;
        }
        Check.due("methods", named, 30);
    }

    private static void eachConstantIsNamed(String page) throws IllegalAccessException {
        for (Field constant : StepperPlanner.class.getFields()) {
            String line = "| `" + constant.getName() + " = " + constant.getInt(null) + "` |";
            Check.holds("README.md has " + line, page.contains(line));
        }
    }

    private static void eachTestIsNamed(String page) throws IOException {
        try (Stream<Path> files = Files.list(Path.of("src/test/java"))) {
            List<String> tests = files.map(file -> file.getFileName().toString()).filter(s -> s.endsWith("Test.java"))
                .map(s -> s.replace(".java", "")).collect(Collectors.toList());
            for (String test : tests) {
                Check.holds("README.md names " + test, page.contains("| `" + test + "` |"));
            }
        }
    }
}
