import java.io.IOException;
import java.nio.file.Files;
import java.nio.file.Path;
import java.util.ArrayList;
import java.util.List;
import java.util.regex.Matcher;
import java.util.regex.Pattern;

/** The lines of code in README.md: each answers what the comment behind it says. */
public final class ReadmeTest {
    private static final Due DUE = new Due("ReadmeTest");
    private static final Pattern LINE = Pattern.compile("x\\.(\\w+)\\(([^)]*)\\);\\s*//\\s*(.*)");
    private static final Pattern ANSWER = Pattern.compile("(?:tray |size |cable )?(-?\\d+|true|false)(?::.*)?");
    private static final int LINES = 9;

    private final CableSizes x = new CableSizes();

    public static void main(String[] args) throws IOException {
        ReadmeTest test = new ReadmeTest();
        int seen = 0;
        for (String line : Files.readAllLines(Path.of("README.md"))) {
            Matcher call = LINE.matcher(line);
            if (call.matches()) {
                Matcher answer = ANSWER.matcher(call.group(3));
                DUE.holds("an answer stands in: " + line, answer.matches());
                String due = answer.matches() ? answer.group(1) : "";
                DUE.same(line, Snapshot.textOf(() -> test.answer(call.group(1), numbersOf(call.group(2)))), due);
                seen++;
            }
        }
        DUE.same("lines of code in README.md", seen, LINES);
        DUE.end();
    }

    private static int[] numbersOf(String text) {
        List<Integer> numbers = new ArrayList<>();
        for (String number : text.split(",")) {
            if (!number.isBlank()) {
                numbers.add(Integer.parseInt(number.strip()));
            }
        }
        return numbers.stream().mapToInt(Integer::intValue).toArray();
    }

    private String answer(String call, int[] a) {
        switch (call) {
            case "tray":
                return "" + x.tray(a[0], a[1], a[2], a[3]);
            case "size":
                return "" + x.size(a[0], a[1], a[2]);
            case "cable":
                return "" + x.cable(a[0], a[1], a[2]);
            case "settled":
                return "" + x.settled();
            case "chosen":
                return "" + x.chosen(a[0]);
            case "told":
                return "" + x.told(a[0], a[1]);
            case "copper":
                return "" + x.copper();
            case "right":
                return "" + x.right(a[0]);
            default:
                return "no such call";
        }
    }
}
