import java.io.IOException;
import java.nio.file.Files;
import java.nio.file.Path;
import java.util.ArrayList;
import java.util.List;
import java.util.regex.Matcher;
import java.util.regex.Pattern;

/** The run of calls that README.md shows: each answers what it tells, and README.md shows no others. */
public final class ReadmeTest {
    private static final String TEXT = "like 9 x=2;quota 1";
    private static final Pattern SHOWN = Pattern.compile("x\\.(\\w+\\(.*\\)); +// (-?\\d+|NO)(:.*)?");

    private final List<String> shown = new ArrayList<>();
    private int next = 0;

    public static void main(String[] args) throws IOException {
        ReadmeTest test = new ReadmeTest();
        List<String> lines = Files.readAllLines(Path.of("README.md"));
        test.readRun(lines);
        Check.due("README.md makes the object", 1, times(lines, "GooseVotes x = new GooseVotes();"));
        Check.due("README.md feeds the text", 1, times(lines, "for (char sign : \"" + TEXT + "\".toCharArray()) {"));
        test.run();
        Check.due("README.md shows so many calls", test.next, test.shown.size());
        Check.end("ReadmeTest");
    }

    private static int times(List<String> lines, String line) {
        return (int) lines.stream().filter(line::equals).count();
    }

    private void readRun(List<String> lines) {
        for (String line : lines) {
            Matcher matcher = SHOWN.matcher(line);
            if (matcher.matches()) {
                shown.add(matcher.group(1) + " // " + matcher.group(2));
            }
            Check.due("told as a call and its answer: " + line, matcher.matches() ? 1 : 0, line.startsWith("x.") ? 1 : 0);
        }
    }

    /** The call answers as due, and README.md shows just that call and answer next. */
    private void due(String call, long want, long got) {
        String line = call + " // " + (want == Check.NO ? "NO" : String.valueOf(want));
        String there = next < shown.size() ? shown.get(next) : "nothing";
        Check.due(call, want, got);
        Check.due("README.md shows " + line + ", found " + there, 1, line.equals(there) ? 1 : 0);
        next++;
    }

    private void run() {
        GooseVotes x = new GooseVotes();
        due("official(1, 3, 2)", 0, x.official(1, 3, 2));
        due("official(0, 0, 3)", 1, x.official(0, 0, 3));
        due("official(3, 0, 4)", 2, x.official(3, 0, 4));
        due("base(1, 4, 9)", 5, x.base(1, 4, 9));
        due("put(4)", 1, x.put(4));
        due("put(2)", 2, x.put(2));
        due("put(2)", Check.STATE, x.put(2));
        for (char sign : TEXT.toCharArray()) {
            x.feed(sign);
        }
        due("treaty()", 0, x.treaty());
        due("of(0, 22)", 17, x.of(0, 22));
        due("of(2, 22)", -14, x.of(2, 22));
        due("against(2, 4, 0)", 5, x.against(2, 4, 0));
        due("against(4, 2, 0)", 4, x.against(4, 2, 0));
        due("against(2, 4, 1)", 0, x.against(2, 4, 1));
        due("bribe(2)", 4, x.bribe(2));
        runFromTheImage(x);
    }

    private void runFromTheImage(GooseVotes x) {
        due("image()", 3, x.image());
        due("away(2, true)", 0, x.away(2, true));
        due("against(2, 4, 1)", 1, x.against(2, 4, 1));
        due("pass(1)", 1, x.pass(1));
        due("told(12)", 1, x.told(12));
        due("undo()", 3, x.undo());
        due("told(12)", 0, x.told(12));
        due("odds(4, 0)", 4, x.odds(4, 0));
        due("odds(4, 1)", 5, x.odds(4, 1));
        due("odds(5, 0)", Check.NO, x.odds(5, 0));
        due("act(0, 1, 7)", 2, x.act(0, 1, 7));
        due("trace(0)", 20, x.trace(0));
        due("of(3, 0)", Check.NONE_LOW, x.of(3, 0));
        due("taken(2, 1)", Check.CAST, x.taken(2, 1));
        due("feed('q')", 1, x.feed('q'));
        due("treaty()", -11, x.treaty());
    }
}
