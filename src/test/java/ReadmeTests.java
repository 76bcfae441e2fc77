import java.io.IOException;
import java.nio.charset.StandardCharsets;
import java.nio.file.Files;
import java.nio.file.Path;
import java.util.regex.Matcher;
import java.util.regex.Pattern;

/** The calls that README.md shows answer, one after the other on one object, what it tells beside them. */
public final class ReadmeTests {
    private static final Pattern LINE = Pattern.compile("x\\.(\\w+)\\(([^)]*)\\); +// (\\{[^}]*\\}|[^:]+)(:.*)?");

    private ReadmeTests() {
    }

    public static void main(String[] args) throws IOException {
        Checks.says("README.md");
        String text = Files.readString(Path.of("README.md"), StandardCharsets.US_ASCII);
        int start = text.indexOf("```java\n");
        String[] lines = text.substring(start, text.indexOf("\n```", start)).split("\n");
        Bookgrafter x = new Bookgrafter();
        // The first two lines are the fence and the making of the object.
        for (int i = 2; i < lines.length; i++) {
            Matcher line = LINE.matcher(lines[i]);
            Checks.due(lines[i] + " is a call with its answer", line.matches(), true);
            if (line.matches()) {
                String call = line.group(1) + " " + line.group(2).replace(",", "");
                Checks.due(lines[i], Calls.run(x, call.strip()), line.group(3));
            }
        }
        Checks.due("calls shown", lines.length > 2, true);
        Checks.finish("the calls of README.md answer as it tells");
    }
}
