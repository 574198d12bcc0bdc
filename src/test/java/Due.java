import java.io.IOException;
import java.nio.file.Files;
import java.nio.file.Path;

/** Counts the answers that are not the ones that are due, and ends a test by them. */
final class Due {
    private static final Path DOCUMENT = Path.of("../shared/DOC.md");

    private int checked;
    private int wrong;
    private int sentences;
    private String sentence = "";
    private String document;

    /** The document's words that the answers from here on are due by. */
    void sentence(String words) {
        sentences++;
        sentence = " [" + words + "]";
        holds("the document says so", isInDocument(words));
    }

    void is(String call, int got, int want) {
        checked++;
        if (got != want) {
            wrong++;
            System.out.println(call + " answered " + got + ", due is " + want + sentence);
        }
    }

    void holds(String what, boolean holds) {
        is(what, holds ? 1 : 0, 1);
    }

    /** What has() tells of a type, up to its NONE. */
    void has(String what, ReferenceRules x, int t, int... numbers) {
        for (int i = 0; i < numbers.length; i++) {
            is(what + ": has(" + t + ", " + i + ")", x.has(t, i), numbers[i]);
        }
        is(what + ": has(" + t + ", " + numbers.length + ")", x.has(t, numbers.length), ReferenceRules.NONE);
    }

    void end() {
        String of = sentences == 0 ? "" : sentences + " sentences, ";
        System.out.println(of + checked + " answers, " + wrong + " wrong");
        if (wrong != 0) {
            System.exit(1);
        }
    }

    /** Where the document is not at hand there is nothing to compare with. */
    private boolean isInDocument(String words) {
        try {
            if (document == null) {
                document = Files.exists(DOCUMENT) ? asOneLine(Files.readString(DOCUMENT)) : "";
            }
        } catch (IOException e) {
            document = "";
        }
        return document.isEmpty() || document.contains(asOneLine(words));
    }

    private static String asOneLine(String text) {
        return text.replaceAll("\\s+", " ");
    }
}
