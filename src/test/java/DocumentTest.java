import java.io.IOException;
import java.nio.file.DirectoryStream;
import java.nio.file.Files;
import java.nio.file.Path;
import java.util.ArrayList;
import java.util.List;
import java.util.regex.Matcher;
import java.util.regex.Pattern;

/** No promise and no sentence of the document is left out by the tests that quote its words. */
public final class DocumentTest {
    private static final Path DOCUMENT = Path.of("../shared/DOC.md");
    private static final Path TESTS = Path.of("src/test/java");
    private static final int PROMISES = 26;
    private static final Pattern QUOTED = Pattern.compile("due\\.sentence\\(\"([^\"]*)\"\\)");

    /** What names no boundary case: headings, signatures, and words that only lead to the next ones. */
    private static final String[] NO_BOUNDARY = {
        "## Terms", "```text", "```", "======== 2", "======== 3", "======== 4",
        "These are the FIT.",
        "have a FORM, a TYPE, a NAME. A REFERENCE MEANS for a FACE:",
        "FORM 1, value::NAME, a value of the TYPE:",
        "CALLED with ARGS (INTS, or THINGS and NULL):",
        "A REFERENCE: its number.", "A VALUE: its number."};
    private static final Pattern HEADING = Pattern.compile("## Promise \\d+: [A-Za-z ]+?(?= `)");
    private static final Pattern SIGNATURE = Pattern.compile("`int [a-z]+\\([a-z, ]*\\)`:");
    private static final Pattern GROUP = Pattern.compile("Ahead of the calls [a-z`, ]+ the interface says: ---- [a-z, ]+\\.");

    private static final Due due = new Due();

    public static void main(String[] args) throws IOException {
        if (!Files.exists(DOCUMENT)) {
            System.out.println("there is no document to compare with");
            return;
        }
        List<String> quoted = quotedByTests();
        String document = asOneLine(Files.readString(DOCUMENT));
        eachPromiseIsQuoted(document, quoted);
        allWordsAreQuoted(between(document, "## Terms", "## Not promised"), quoted);
        due.end();
    }

    private static List<String> quotedByTests() throws IOException {
        List<String> quoted = new ArrayList<>();
        try (DirectoryStream<Path> files = Files.newDirectoryStream(TESTS, "*Test.java")) {
            for (Path file : files) {
                Matcher m = QUOTED.matcher(Files.readString(file));
                while (m.find()) {
                    quoted.add(asOneLine(m.group(1)));
                }
            }
        }
        return quoted;
    }

    private static void eachPromiseIsQuoted(String document, List<String> quoted) {
        for (int i = 1; i <= PROMISES; i++) {
            String next = i < PROMISES ? "## Promise " + (i + 1) + ":" : "## Not promised";
            String promise = between(document, "## Promise " + i + ":", next);
            due.holds("a test quotes promise " + i, quoted.stream().anyMatch(promise::contains));
        }
    }

    private static void allWordsAreQuoted(String text, List<String> quoted) {
        boolean[] isSeen = new boolean[text.length()];
        quoted.forEach(words -> see(text, words, isSeen));
        for (String words : NO_BOUNDARY) {
            see(text, words, isSeen);
        }
        see(text, HEADING, isSeen);
        see(text, SIGNATURE, isSeen);
        see(text, GROUP, isSeen);
        StringBuilder left = new StringBuilder();
        for (int i = 0; i < isSeen.length; i++) {
            left.append(isSeen[i] ? '|' : text.charAt(i));
        }
        String rest = left.toString().replaceAll("[|\\s.,]+", " ").trim();
        due.holds("a test quotes <" + rest + ">", rest.isEmpty());
    }

    private static void see(String text, String words, boolean[] isSeen) {
        see(text, Pattern.compile(Pattern.quote(words)), isSeen);
    }

    private static void see(String text, Pattern words, boolean[] isSeen) {
        Matcher m = words.matcher(text);
        while (m.find()) {
            for (int i = m.start(); i < m.end(); i++) {
                isSeen[i] = true;
            }
        }
    }

    private static String between(String text, String from, String to) {
        int start = text.indexOf(from);
        int end = text.indexOf(to);
        due.holds("the document has " + from + " ahead of " + to, start >= 0 && end > start);
        return start >= 0 && end > start ? text.substring(start, end) : "";
    }

    private static String asOneLine(String text) {
        return text.replaceAll("\\s+", " ");
    }
}
