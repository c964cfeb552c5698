import java.io.IOException;
import java.nio.file.DirectoryStream;
import java.nio.file.Files;
import java.nio.file.Path;
import java.util.ArrayList;
import java.util.HashMap;
import java.util.List;
import java.util.Map;
import java.util.regex.Matcher;
import java.util.regex.Pattern;

/** No sentence of the document is left out: what the edge tests quote, taken together, is all that it promises. */
public final class QuotesTest {
    /** Words that name no edge: headings, and what the interface says ahead of calls without a bound. */
    static final List<String> NO_EDGE = List.of("======== 1", "======== 2", "======== 3 LOTS:", "```text", "```", "What a BEAD that IS of a KIND tells:",
        "---- 1 rows, texts, toys.", "---- 2 deeds.", "---- 3 what shows (aside).", "---- 5 which kind, which colour", "---- 6 by turns.", "---- 7 chances, lots",
        "---- 8 what is told.", "KINDS of BEADS and letters:");

    static int wrong = 0;

    public static void main(String[] args) throws IOException {
        String document = Files.readString(Path.of("../shared/DOC.md")).replaceAll("\\s+", " ");
        Map<Integer, List<String>> quotes = quotes();
        int from = document.indexOf("## Terms");
        int to = document.indexOf("## Promise 1:");
        check(from >= 0 && to > from, "the document has its terms");
        String terms = from < 0 || to < from ? "" : document.substring(from + "## Terms".length(), to);
        leavesNothing(0, terms.replaceAll("Ahead of the calls? [^:]*? the interface says:", ""), quotes);
        for (int promise = 1; promise <= 39; promise++) leavesNothing(promise, promised(document, promise), quotes);
        System.out.println(wrong == 0 ? "every sentence is quoted by an edge test" : wrong + " sentences are not quoted");
        if (wrong != 0) System.exit(1);
    }

    static void check(boolean right, String what) {
        if (!right) {
            wrong++;
            System.out.println("not so: " + what);
        }
    }

    /** What a promise says behind its heading and its signature. */
    static String promised(String document, int promise) {
        Matcher m = Pattern.compile("## Promise " + promise + ": [^`]*`[^`]*`: (.*?) ## ").matcher(document);
        boolean there = m.find();
        check(there, "the document has promise " + promise);
        return there ? m.group(1) : "";
    }

    static Map<Integer, List<String>> quotes() throws IOException {
        Map<Integer, List<String>> all = new HashMap<>();
        Pattern quoted = Pattern.compile("Edge\\.sentence\\((\\d+), \"([^\"]*)\"\\);");
        try (DirectoryStream<Path> files = Files.newDirectoryStream(Path.of("src/test/java"), "Edges*.java")) {
            for (Path file : files) {
                Matcher m = quoted.matcher(Files.readString(file));
                while (m.find()) all.computeIfAbsent(Integer.parseInt(m.group(1)), k -> new ArrayList<>()).add(m.group(2));
            }
        }
        return all;
    }

    static void leavesNothing(int promise, String said, Map<Integer, List<String>> quotes) {
        boolean[] covered = new boolean[said.length()];
        for (String words : quotes.getOrDefault(promise, List.of())) cover(said, words, covered);
        for (String words : NO_EDGE) cover(said, words, covered);
        StringBuilder left = new StringBuilder();
        for (int i = 0; i < covered.length; i++) left.append(covered[i] ? '|' : said.charAt(i));
        check(!Pattern.compile("[A-Za-z0-9]").matcher(left).find(), "promise " + promise + " leaves " + left.toString().replaceAll("\\|+", "|"));
    }

    static void cover(String said, String words, boolean[] covered) {
        for (int at = said.indexOf(words); at >= 0; at = said.indexOf(words, at + 1)) {
            for (int i = at; i < at + words.length(); i++) covered[i] = true;
        }
    }
}
