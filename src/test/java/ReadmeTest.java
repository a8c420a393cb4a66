import java.io.IOException;
import java.lang.reflect.Method;
import java.lang.reflect.Modifier;
import java.nio.file.Files;
import java.nio.file.Path;
import java.util.ArrayList;
import java.util.Arrays;
import java.util.List;
import java.util.Set;
import java.util.TreeSet;
import java.util.regex.Matcher;
import java.util.regex.Pattern;

/** The answers that README.md shows for its example calls are those of the class. */
public final class ReadmeTest {
    private static final Path README = Path.of("README.md");
    private static final String MAKING = "TapeCounter x = new TapeCounter();";
    private static final Pattern CALL = Pattern.compile(
        "x\\.(\\w+)\\(([^()]*)\\); +// (-?\\d+|true|false|NONE)(: .+)?");
    private static final List<String> MUST_SHOW = List.of(
        "weigh true", "weigh false", "isOne true", "isOne false", "weight NONE", "feed NONE", "draw NONE",
        "count NONE", "fails NONE", "work NONE", "first NONE");

    private final Check check = new Check();
    private final Set<String> shownCalls = new TreeSet<>();
    private final Set<String> shownAnswers = new TreeSet<>();
    private TapeCounter x;

    public static void main(String[] args) throws IOException, ReflectiveOperationException {
        ReadmeTest test = new ReadmeTest();
        for (List<String> example : examples(Files.readAllLines(README))) {
            test.run(example);
        }
        test.showsWholeFace();
        test.check.end();
    }

    /** The lines of each block of Java. */
    private static List<List<String>> examples(List<String> lines) {
        List<List<String>> all = new ArrayList<>();
        boolean inside = false;
        for (String line : lines) {
            if (!inside && line.strip().equals("```java")) {
                inside = true;
                all.add(new ArrayList<>());
            } else if (inside && line.strip().equals("```")) {
                inside = false;
            } else if (inside) {
                all.get(all.size() - 1).add(line.strip());
            }
        }
        return all;
    }

    private void run(List<String> example) throws ReflectiveOperationException {
        x = null;
        for (String line : example) {
            if (line.equals(MAKING)) {
                x = new TapeCounter();
                continue;
            }
            Matcher call = CALL.matcher(line);
            if (x != null && call.matches()) {
                answersAsShown(line, call.group(1), call.group(2), call.group(3));
            } else {
                check.due("README.md: a call of a new object with its answer: " + line, false, true);
            }
        }
    }

    private void answersAsShown(String line, String name, String numbers, String shown)
            throws ReflectiveOperationException {
        Object[] given = numbers.isEmpty() ? new Object[0]
            : Arrays.stream(numbers.split(", ")).map(ReadmeTest::number).toArray();
        Class<?>[] ints = new Class<?>[given.length];
        Arrays.fill(ints, int.class);
        Method method = TapeCounter.class.getMethod(name, ints);
        String due = shown.equals("NONE") ? String.valueOf(TapeCounter.NONE) : shown;
        check.due("README.md: " + line, String.valueOf(method.invoke(x, given)), due);
        shownCalls.add(name);
        shownAnswers.add(name + " " + shown);
    }

    private static Object number(String text) {
        return text.startsWith("0b") ? Integer.parseUnsignedInt(text.substring(2), 2) : Integer.parseInt(text);
    }

    private void showsWholeFace() {
        for (Method method : TapeCounter.class.getDeclaredMethods()) {
            if (Modifier.isPublic(method.getModifiers())) {
                check.due("README.md shows " + method.getName(), shownCalls.contains(method.getName()), true);
            }
        }
        for (String answer : MUST_SHOW) {
            check.due("README.md shows " + answer, shownAnswers.contains(answer), true);
        }
    }
}
