import java.io.IOException;
import java.nio.file.Files;
import java.nio.file.Path;
import java.util.ArrayList;
import java.util.List;
import java.util.regex.Matcher;
import java.util.regex.Pattern;

/** The example of README.md, read from there: its calls answer what stands behind them. */
public final class ReadmeTest {
    private static final Pattern CALL = Pattern.compile("x\\.(\\w+)\\((.*)\\); +// (\\S+?)[,:;]?( .*)?");

    public static void main(String[] args) throws IOException {
        Check check = new Check("README.md");
        WordSets x = new WordSets();
        List<String> lines = exampleLines();
        check.equal("the first line", lines.get(0), "WordSets x = new WordSets();");
        for (String line : lines.subList(1, lines.size())) {
            Matcher call = CALL.matcher(line);
            if (!call.matches()) {
                check.fail("not understood: " + line);
            } else if (call.group(3).equals("throws")) {
                check.throwsIllegalArgument(line, () -> answer(x, call));
            } else if (!call.group(1).equals("turn")) {
                check.equal(line, answer(x, call), call.group(3));
                wordIs(check, x, line);
            } else {
                answer(x, call);
            }
        }
        check.end();
    }

    /** The test is run in the project's folder. */
    private static List<String> exampleLines() throws IOException {
        List<String> lines = new ArrayList<>();
        boolean inside = false;
        for (String line : Files.readAllLines(Path.of("README.md"))) {
            if (inside && line.equals("```")) {
                return lines;
            }
            if (inside) {
                lines.add(line);
            }
            inside |= line.equals("```java");
        }
        return lines;
    }

    private static void wordIs(Check check, WordSets x, String line) {
        Matcher named = Pattern.compile(".* the word is (\\w+).*").matcher(line);
        if (named.matches()) {
            check.equal(line, Use.word(x), named.group(1));
        }
    }

    private static String answer(WordSets x, Matcher call) {
        String[] texts = call.group(2).isEmpty() ? new String[0] : call.group(2).split(", ");
        long[] a = new long[3];
        for (int i = 0; i < texts.length; i++) {
            a[i] = Long.decode(texts[i].replace("L", ""));
        }
        int first = (int) a[0];
        int second = (int) a[1];
        switch (call.group(1)) {
            case "feed": return "" + x.feed(a[0], second);
            case "read": return "" + x.read(first);
            case "place": return "" + x.place();
            case "has": return "" + x.has(first);
            case "compare": return "" + x.compare(first, second);
            case "contains": return "" + x.contains(first, second);
            case "least": return "" + x.least(first);
            case "count": return "" + x.count(first, second);
            case "word": return "" + x.word(first, second, a[2]);
            case "states": return "" + x.states(first);
            case "turn": x.turn(first, second); return "";
            case "size": return "" + x.size();
            case "letter": return "" + x.letter(first);
            default: return "no such call";
        }
    }
}
