import java.lang.reflect.Method;
import java.lang.reflect.Modifier;
import java.nio.file.Files;
import java.nio.file.Path;
import java.util.Arrays;
import java.util.List;
import java.util.Set;
import java.util.TreeSet;
import java.util.regex.Matcher;
import java.util.regex.Pattern;

/** Goes through the example in README.md, and looks that the file tells of each call and answer. */
public final class ReadmeTest {
    private static final Path README = Path.of("README.md");
    private static final Check CHECK = new Check("ReadmeTest");
    private static final String MADE = "BalancedSplits x = new BalancedSplits();";
    /** A call with numbers, and behind it the answer, with words or without. */
    private static final Pattern CALL = Pattern.compile("x\\.(\\w+)\\(([-0-9, ]*)\\); +// (-?[0-9]+)(: .+)?");

    private BalancedSplits x;
    private final Set<String> called = new TreeSet<>();

    public static void main(String[] args) throws Exception {
        String text = Files.readString(README);
        ReadmeTest test = new ReadmeTest();
        test.example(text);
        test.calls(text);
        answers(text);
        CHECK.end();
    }

    private void example(String text) throws Exception {
        boolean inside = false;
        for (String line : text.lines().toList()) {
            if (line.startsWith("```")) {
                inside = line.equals("```java");
            } else if (inside) {
                lineOfExample(line);
            }
        }
    }

    private void lineOfExample(String line) throws Exception {
        Matcher call = CALL.matcher(line);
        if (line.equals(MADE)) {
            x = new BalancedSplits();
        } else if (call.matches() && x != null) {
            CHECK.due(line, answerOf(call.group(1), call.group(2)), Integer.parseInt(call.group(3)));
            called.add(call.group(1));
        } else {
            CHECK.holds("the line can be gone through: " + line, false);
        }
    }

    private int answerOf(String name, String numbers) throws Exception {
        Integer[] given = numbers.isBlank() ? new Integer[0]
                : Arrays.stream(numbers.split(", ")).map(Integer::valueOf).toArray(Integer[]::new);
        Class<?>[] types = new Class<?>[given.length];
        Arrays.fill(types, int.class);
        return (int) BalancedSplits.class.getMethod(name, types).invoke(x, (Object[]) given);
    }

    private void calls(String text) {
        List<String> lines = text.lines().toList();
        for (Method m : BalancedSplits.class.getDeclaredMethods()) {
            if (Modifier.isPublic(m.getModifiers())) {
                CHECK.holds("the example has " + m.getName(), called.contains(m.getName()));
                Pattern row = Pattern.compile("\\| `" + m.getName() + "\\((\\w+, ){"
                        + Math.max(0, m.getParameterCount() - 1) + "}\\w*\\)` \\|.*");
                CHECK.due("rows of " + m.getName(), lines.stream().filter(l -> row.matcher(l).matches()).count(), 1);
            }
        }
    }

    private static void answers(String text) {
        for (String row : List.of("| `BAD` | -1 |", "| `NONE` | -2 |", "| `FULL` | -3 |", "| `TURN` | -4 |")) {
            CHECK.holds("it has a row " + row, text.contains("\n" + row));
        }
    }
}
