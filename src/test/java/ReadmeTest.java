import java.io.IOException;
import java.nio.file.Files;
import java.nio.file.Path;
import java.util.regex.Matcher;
import java.util.regex.Pattern;

/** The example of README.md answers what stands beside each of its calls. */
public final class ReadmeTest {
    private static final Pattern ROW = Pattern.compile("x\\.(\\w+\\([^)]*\\));\\s*// (-?\\d+):");

    public static void main(String[] args) throws IOException {
        LineWalkers x = new LineWalkers();
        int rows = 0;
        for (String line : Files.readAllLines(Path.of("README.md"))) {
            if (line.startsWith("x.")) {
                Matcher row = ROW.matcher(line);
                Check.that("README: " + line + " is a call with its answer", row.lookingAt());
                if (row.lookingAt()) {
                    Check.due("README: " + row.group(1), Call.read(row.group(1)).on(x), Integer.parseInt(row.group(2)));
                    rows++;
                }
            }
        }
        Check.that("README has an example", rows > 10);
        Check.end("ReadmeTest");
    }
}
