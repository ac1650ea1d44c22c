import java.io.IOException;
import java.nio.file.Files;
import java.nio.file.Path;
import java.util.regex.MatchResult;
import java.util.regex.Pattern;
import java.util.stream.Collectors;

/** The example of README.md, each call with the answer that stands behind it there. */
public final class ReadmeTest {
    private static final Pattern CALL = Pattern.compile("^store\\.(.*); +// (-> \\S+)", Pattern.MULTILINE);
    private static final Pattern ANY_CALL = Pattern.compile("^store\\.", Pattern.MULTILINE);

    public static void main(String[] args) throws IOException {
        String readme = Files.readString(Path.of("README.md"));
        String run = CALL.matcher(readme).results().map(ReadmeTest::told).collect(Collectors.joining("\n"));
        Story.tell("README.md", run);
        Due.is("calls with an answer", ANY_CALL.matcher(readme).results().count(), run.lines().count());
        Due.end();
    }

    private static String told(MatchResult line) {
        return line.group(1) + " " + line.group(2);
    }
}
