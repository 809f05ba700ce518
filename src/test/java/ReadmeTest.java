import java.io.IOException;
import java.nio.file.Files;
import java.nio.file.Path;
import java.util.ArrayList;
import java.util.List;
import java.util.regex.Matcher;
import java.util.regex.Pattern;

/** The run of calls that README.md shows: it is read there, so that the page cannot tell another. */
final class ReadmeTest {
    private static final String FIRST = "    WorthCache cache = new WorthCache();";
    private static final Pattern CALL =
            Pattern.compile(" {4}cache\\.(\\w+\\([^()]*\\)); +// (throws )?(-?\\w+)(: .*)?");

    static void run(Checks checks, Path readme) {
        checks.script("README.md: each call answers what stands behind it", callsOf(readme));
    }

    private static String callsOf(Path readme) {
        List<String> lines = linesOf(readme);
        int first = lines.indexOf(FIRST) + 1;
        List<String> calls = new ArrayList<>();
        for (int at = first; first > 0 && at < lines.size() && !lines.get(at).isEmpty(); at++) {
            calls.add(callOf(lines.get(at)));
        }
        if (calls.isEmpty()) {
            throw new AssertionError("no run of calls in " + readme);
        }
        return String.join("\n", calls);
    }

    /** A line that is no call with its answer ends the tests, as it would not be tried. */
    private static String callOf(String line) {
        Matcher call = CALL.matcher(line);
        if (!call.matches()) {
            throw new AssertionError("no call with its answer: " + line);
        }
        return call.group(1) + " = " + (call.group(2) == null ? "" : "throws.") + call.group(3);
    }

    private static List<String> linesOf(Path readme) {
        try {
            return Files.readAllLines(readme);
        } catch (IOException e) {
            throw new AssertionError("cannot read " + readme, e);
        }
    }
}
