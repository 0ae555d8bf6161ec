import java.io.IOException;
import java.lang.reflect.Method;
import java.lang.reflect.Modifier;
import java.nio.file.Files;
import java.nio.file.Path;
import java.util.HashMap;
import java.util.List;
import java.util.Map;
import java.util.regex.Matcher;
import java.util.regex.Pattern;
import java.util.stream.Stream;

/** The lines of README.md are called, one behind the other, and must answer what stands behind them. */
public final class ReadmeTest {
    private static final Path README = Path.of("README.md");
    private static final Path TESTS = Path.of("src/test/java");
    private static final Pattern CALL = Pattern.compile("int (\\w+) = x\\.(\\w+)\\((.*)\\); +// (-?\\d+): .*");
    private static final Pattern TEXT = Pattern.compile("for \\(char sign : \"(.*)\"\\.toCharArray\\(\\)\\) \\{");
    /** What stands in the lines beside the calls. */
    private static final List<String> BESIDE = List.of("BowlerDents x = new BowlerDents();", "x.feed(sign);", "}", "");

    private final Run run = new Run();
    private final Map<String, Integer> names = new HashMap<>();
    private int asked = 0;
    private int wrong = 0;

    public static void main(String[] args) throws IOException {
        ReadmeTest test = new ReadmeTest();
        String page = Files.readString(README);
        test.lines(page);
        test.names(page);
        System.out.println(test.asked + " lines of the page asked, " + test.wrong + " wrong");
        if (test.wrong != 0 || test.asked == 0) {
            System.exit(1);
        }
    }

    private void fault(String what) {
        wrong++;
        System.out.println(README + ": " + what);
    }

    private void lines(String page) {
        Matcher block = Pattern.compile("(?s)```java\n(.*?)```").matcher(page);
        while (block.find()) {
            for (String line : block.group(1).split("\n")) {
                line(line.trim());
            }
        }
    }

    private void line(String line) {
        Matcher call = CALL.matcher(line);
        Matcher text = TEXT.matcher(line);
        if (call.matches()) {
            asked++;
            int answer = (int) run.ask(call.group(2) + "(" + values(call.group(3)) + ")");
            if (answer != Integer.parseInt(call.group(4))) {
                fault("answered " + answer + ": " + line);
            }
            if (names.put(call.group(1), answer) != null) {
                fault("a name stands there twice: " + line);
            }
        } else if (text.matches()) {
            run.text(text.group(1));
        } else if (!BESIDE.contains(line)) {
            fault("not understood: " + line);
        }
    }

    /** The arguments, where names and sums are numbers. */
    private String values(String arguments) {
        StringBuilder values = new StringBuilder();
        for (String argument : arguments.isEmpty() ? new String[0] : arguments.split(", ")) {
            int sum = 0;
            for (String part : argument.split(" \\+ ")) {
                sum += names.containsKey(part) ? names.get(part) : Integer.parseInt(part);
            }
            values.append(values.length() == 0 ? "" : ", ").append(sum);
        }
        return values.toString();
    }

    private void names(String page) throws IOException {
        for (Method m : BowlerDents.class.getDeclaredMethods()) {
            if (Modifier.isPublic(m.getModifiers()) && !page.contains("`" + m.getName() + "`")) {
                fault("the call " + m.getName() + " is not named");
            }
        }
        try (Stream<Path> files = Files.list(TESTS)) {
            for (Path file : files.toList()) {
                String name = file.getFileName().toString().replace(".java", "");
                if (name.endsWith("Test") && !page.contains("| `" + name + "` |")) {
                    fault("the test " + name + " is not named");
                }
            }
        }
    }
}
