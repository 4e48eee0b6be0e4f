import java.nio.file.Files;
import java.nio.file.Path;
import java.util.HashMap;
import java.util.List;
import java.util.Map;
import java.util.regex.Matcher;
import java.util.regex.Pattern;

/** The example in README.md: each line's call answers the number at the end of the line. */
public final class ReadmeTest {
    private static final Pattern LINE = Pattern.compile("int (\\w+) = s\\.(\\w+)\\(([^)]*)\\); +// .*: (-?\\d+)");
    private static final int LEAST_LINES = 20;

    private final Map<String, Integer> answers = new HashMap<>();
    private final Calls calls = new Calls(SwungShips.class);
    private final SwungShips s = new SwungShips();
    private int wrong = 0;
    private int lines = 0;

    public static void main(String[] args) throws Exception {
        ReadmeTest test = new ReadmeTest();
        String readme = Files.readString(Path.of("README.md"));
        String example = readme.split("```java\n")[1].split("```")[0];
        for (String line : example.split("\n")) {
            test.look(line);
        }
        if (test.wrong != 0 || test.lines < LEAST_LINES) {
            System.out.println(test.lines + " lines, " + test.wrong + " wrong");
            System.exit(1);
        }
        System.out.println("the example answers what README.md says");
    }

    private void look(String line) {
        if (line.isBlank() || line.startsWith("SwungShips s = new SwungShips();")) {
            return;
        }
        Matcher m = LINE.matcher(line);
        if (!m.matches()) {
            tell("can't be read: " + line);
            return;
        }
        lines++;
        int got = calls.answer(s, m.group(2), numbers(m.group(3)));
        answers.put(m.group(1), got);
        if (got != Integer.parseInt(m.group(4))) {
            tell(line + " .. answered " + got);
        }
    }

    /** What stands between the brackets: numbers, and names of earlier answers. */
    private int[] numbers(String text) {
        List<String> parts = text.isEmpty() ? List.of() : List.of(text.split(", "));
        return parts.stream().mapToInt(p -> answers.containsKey(p) ? answers.get(p) : Integer.parseInt(p)).toArray();
    }

    private void tell(String what) {
        wrong++;
        System.out.println(what);
    }
}
