import java.io.IOException;
import java.nio.file.Files;
import java.nio.file.Path;
import java.util.List;
import java.util.regex.Matcher;
import java.util.regex.Pattern;

/** Every loop of the program has a counter that goes to a bound in its own lines (LANGUAGE.md, rule 9). */
public final class LoopsTest {
    private static final Path PROGRAM = Path.of("src/main/java/TapeCounter.java");
    private static final Pattern LOOP = Pattern.compile("\\b(for|while|do)\\b\\s*[({]");
    private static final Pattern UP = Pattern.compile(
        "for \\(int (\\w+) = [^;]+; \\1 <=? [^;]+; \\1(\\+\\+| \\+= Math\\.max\\(1, \\w+\\))\\) \\{");
    private static final Pattern DOWN = Pattern.compile("for \\(int (\\w+) = [^;]+; \\1 >=? [^;]+; \\1--\\) \\{");
    private static final Pattern WHILE_BELOW = Pattern.compile("while \\((\\w+) < \\w+ && .+\\) \\{");

    public static void main(String[] args) throws IOException {
        Check check = new Check();
        List<String> lines = Files.readAllLines(PROGRAM);
        int loops = 0;
        for (int at = 0; at < lines.size(); at++) {
            String line = lines.get(at).strip();
            if (isWords(line) || !LOOP.matcher(line).find()) {
                continue;
            }
            loops++;
            boolean ends = UP.matcher(line).matches() || DOWN.matcher(line).matches()
                || isWhileThatCounts(lines, at);
            check.due("line " + (at + 1) + " is a loop whose end is seen: " + line, ends, true);
        }
        check.due("there are loops", loops > 0, true);
        check.end();
    }

    private static boolean isWords(String line) {
        return line.startsWith("//") || line.startsWith("*") || line.startsWith("/*");
    }

    /** The loop's first line raises the counter that its head looks at. */
    private static boolean isWhileThatCounts(List<String> lines, int at) {
        Matcher head = WHILE_BELOW.matcher(lines.get(at).strip());
        return head.matches() && at + 1 < lines.size()
            && lines.get(at + 1).strip().equals(head.group(1) + "++;");
    }
}
