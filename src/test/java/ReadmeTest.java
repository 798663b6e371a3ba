import java.io.IOException;
import java.nio.file.Files;
import java.nio.file.Path;
import java.util.regex.Matcher;
import java.util.regex.Pattern;

/** The calls that README.md shows answer what it says. */
public final class ReadmeTest {
    private static final Check CHECK = new Check();
    private static final Pattern LINE = Pattern.compile("x\\.(\\w+\\(.*\\));\\s+// (-?\\d+)(:.*)?");

    public static void main(String[] args) throws IOException {
        SteamTunes x = new SteamTunes();
        for (String line : Files.readAllLines(Path.of("README.md"))) {
            if (line.startsWith("x.")) {
                judge(x, line);
            }
        }
        CHECK.finish();
    }

    private static void judge(SteamTunes x, String line) {
        Matcher m = LINE.matcher(line);
        if (!m.matches()) {
            CHECK.due("README: no answer is told in: " + line, 0, 1);
            return;
        }
        String call = m.group(1).replaceAll("L\\)$", ")");
        CHECK.due("README: " + call, Call.read(call).on(x), Long.parseLong(m.group(2)));
    }
}
