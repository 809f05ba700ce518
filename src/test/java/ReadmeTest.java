import java.io.IOException;
import java.nio.file.Files;
import java.nio.file.Path;
import java.util.ArrayList;
import java.util.List;
import java.util.regex.Matcher;
import java.util.regex.Pattern;

/** The run of calls that README.md shows: it is read there, so that the page cannot tell another. */
final class ReadmeTest {
    private static final String FIRST = "    WorthCache cache = new WorthCache();";
    private static final Pattern CALL =
            Pattern.compile(" {4}cache\\.(\\w+\\([^()]*\\)); +// (throws )?(-?\\w+)(: .*)?");

    static void run(Checks checks, Path readme) {
        checks.script("README.md: each call answers what stands behind it", callsOf(readme));
    }

    /** A line that shows no call with its answer ends the tests: it would not be made. */
    private static String callsOf(Path readme) {
        List<String> calls = new ArrayList<>();
        List<String> lines = linesOf(readme);
        int first = lines.indexOf(FIRST);
        for (String line : first < 0 ? lines : lines.subList(first + 1, lines.size())) {
            if (line.isEmpty()) {
                break;
            }
            Matcher call = CALL.matcher(line);
            if (!call.matches()) {
                throw new AssertionError("no call with its answer in " + readme + ": " + line);
            }
            calls.add(call.group(1) + " = " + (call.group(2) == null ? "" : "throws.") + call.group(3));
        }
        if (calls.isEmpty()) {
            throw new AssertionError("no calls in " + readme);
        }
        return String.join("\n", calls);
    }

    private static List<String> linesOf(Path readme) {
        try {
            return Files.readAllLines(readme);
        } catch (IOException e) {
            throw new AssertionError("cannot read " + readme, e);
        }
    }
}
