import java.io.IOException;
import java.nio.file.Files;
import java.nio.file.Path;
import java.util.ArrayList;
import java.util.List;
import java.util.Set;
import java.util.TreeSet;
import java.util.stream.Stream;

/**
 * The document sentence by sentence: the files under src/test/sentences quote it, and below each quote stand runs of
 * calls with the answers that are due. Every word of the document's terms and promises has to be quoted, and every call
 * that is refused, or that only asks, has to leave the object as it was.
 */
public final class SentencesTest {
    private static final Check CHECK = new Check();
    private static final Path SENTENCES = Path.of("src/test/sentences");
    private static final Path DOCUMENT = Path.of("../shared/DOC.md");
    private static final int MOST_CALLS = 512;

    private final String document;
    private final boolean[] isQuoted;
    private final Set<String> promisesWithRuns = new TreeSet<>();
    private String where = "";
    private int runsHere = 0;
    private List<Call> run = new ArrayList<>();

    private SentencesTest(String document) {
        this.document = document;
        isQuoted = new boolean[document.length()];
    }

    public static void main(String[] args) throws IOException {
        SentencesTest test = new SentencesTest(oneLine(withoutInterface(Files.readString(DOCUMENT))));
        List<Path> files;
        try (Stream<Path> all = Files.list(SENTENCES)) {
            files = all.filter(f -> f.toString().endsWith(".txt")).sorted().toList();
        }
        for (Path file : files) {
            test.readFile(file);
        }
        test.endQuote();
        test.judgeQuotes();
        CHECK.finish();
    }

    /** The text from the terms on, without the lines that only group the calls. */
    private static String withoutInterface(String text) {
        StringBuilder kept = new StringBuilder();
        String body = text.substring(text.indexOf("## Terms"), text.indexOf("## Not promised"));
        for (String line : body.split("\n")) {
            if (!line.startsWith("Ahead of the calls") && !line.startsWith("```") && !line.startsWith("## Terms")) {
                kept.append(line.replaceAll("^`[^`]*`: ", "")).append('\n');
            }
        }
        return kept.toString();
    }

    private static String oneLine(String text) {
        return text.replaceAll("\\s+", " ").trim();
    }

    private void readFile(Path file) throws IOException {
        boolean wasQuote = false;
        for (String line : Files.readAllLines(file)) {
            boolean isQuote = line.startsWith("== ");
            if (isQuote && !wasQuote) {
                endQuote();
            }
            if (isQuote) {
                quote(line.substring(3));
            } else if (line.isBlank()) {
                endRun();
            } else if (!line.startsWith("#")) {
                for (String part : line.split(";")) {
                    run.add(Call.read(part.trim()));
                }
            }
            wasQuote = isQuote;
        }
        endRun();
    }

    private void endQuote() {
        endRun();
        CHECK.due(where + ": no run below it", runsHere == 0 && !where.isEmpty() ? 1 : 0, 0);
        runsHere = 0;
    }

    /** Marks what is quoted, which has to stand in the section that is told: "terms", or a promise's number. */
    private void quote(String text) {
        where = text;
        String[] parts = text.split(" \\| ", 2);
        promisesWithRuns.add(parts[0]);
        int begin = parts[0].equals("terms") ? 0 : document.indexOf("## Promise " + parts[0] + ":");
        int end = begin < 0 ? -1 : document.indexOf("## Promise ", begin + 1);
        String section = document.substring(Math.max(0, begin), end < 0 ? document.length() : end);
        String wanted = oneLine(parts[1]);
        int at = begin < 0 ? -1 : section.indexOf(wanted);
        CHECK.due("the document says: " + text, at < 0 ? 0 : 1, 1);
        for (int i = 0; at >= 0 && i < wanted.length(); i++) {
            isQuoted[begin + at + i] = true;
        }
    }

    private void judgeQuotes() {
        for (int p = 1; p <= 37; p++) {
            CHECK.due("promise " + p + " has runs", promisesWithRuns.contains(String.valueOf(p)) ? 1 : 0, 1);
        }
        StringBuilder missing = new StringBuilder();
        for (int i = 0; i < document.length(); i++) {
            missing.append(isQuoted[i] ? '\n' : document.charAt(i));
        }
        for (String piece : missing.toString().split("\n")) {
            String words = piece.replaceAll("## Promise \\d+: (A new object|\\w+)|=+ \\d", "");
            CHECK.due("no run for: " + piece.trim(), words.matches(".*[A-Za-z0-9].*") ? 1 : 0, 0);
        }
    }

    private void endRun() {
        if (run.isEmpty()) {
            return;
        }
        runsHere++;
        SteamTunes x = new SteamTunes();
        int calls = 0;
        for (int i = 0; i < run.size(); i++) {
            Call call = run.get(i);
            long answer = call.on(x);
            calls += call.weight();
            if (call.isJudged()) {
                CHECK.due(where + ": " + call.told(), answer, call.due());
            }
            if (call.leavesAll(answer)) {
                CHECK.due(where + ": " + call.told() + " changes nothing", lookedAt(i + 1).equals(lookedAt(i)) ? 1 : 0, 1);
            }
        }
        CHECK.due(where + ": more than 512 calls", calls > MOST_CALLS ? 1 : 0, 0);
        run = new ArrayList<>();
    }

    /** All that can be seen of a new object behind the first calls of the run; it is spent by that. */
    private String lookedAt(int calls) {
        SteamTunes x = new SteamTunes();
        for (int i = 0; i < calls; i++) {
            run.get(i).on(x);
        }
        return Look.at(x);
    }
}
