import java.io.IOException;
import java.io.UncheckedIOException;
import java.nio.file.Files;
import java.nio.file.Path;
import java.util.regex.Matcher;
import java.util.regex.Pattern;

/** The document's words: which of them are looked at, which have been, and which nobody has looked at yet. */
final class Document {
    private static final int PROMISES = 40;
    private static final String TEXT = read();
    private static final boolean[] SAID = new boolean[TEXT.length()];
    private static String sentence = "";
    private static int duesOfSentence = 1;

    private Document() {
    }

    private static String read() {
        try {
            return Files.readString(Path.of("../shared/DOC.md")).replaceAll("\\s+", " ");
        } catch (IOException e) {
            throw new UncheckedIOException(e);
        }
    }

    /** What is due from here on is due by these words of the terms. */
    static void says(String words) {
        says(words, TEXT.indexOf("==== 1"), TEXT.indexOf("## Promise 1:"));
    }

    /** What is due from here on is due by these words of a promise. */
    static void promises(int promise, String words) {
        int start = TEXT.indexOf("## Promise " + promise + ":");
        int end = promise == PROMISES ? TEXT.indexOf("## Not promised") : TEXT.indexOf("## Promise " + (promise + 1));
        says(words, start, end);
        sentence = promise + ": " + words;
    }

    private static void says(String words, int start, int end) {
        Due.holds("\"" + sentence + "\" has a test of its own", duesOfSentence > 0);
        duesOfSentence = 0;
        sentence = words;
        int at = TEXT.indexOf(words, start);
        boolean stands = at >= start && at + words.length() <= end;
        Due.holds("\"" + words + "\" stands in the document", stands);
        for (int i = at; stands && i < at + words.length(); i++) {
            SAID[i] = true;
        }
    }

    static void due(String call, long got, long want) {
        duesOfSentence++;
        Due.due("\"" + sentence + "\": " + call, got, want);
    }

    static void holds(String what, boolean so) {
        due(what, so ? 1 : 0, 1);
    }

    /** Terms and promises, but for headings, signatures and what is told of the interface's comments. */
    static void allIsSaid() {
        Due.holds("\"" + sentence + "\" has a test of its own", duesOfSentence > 0);
        String aside = "==== \\d|```(text)?|## Promise \\d+: [\\w ]+ `[^`]*`: |"
            + "Ahead of the calls .*? says: [^.]*\\.";
        Matcher asides = Pattern.compile(aside).matcher(TEXT);
        while (asides.find()) {
            for (int i = asides.start(); i < asides.end(); i++) {
                SAID[i] = true;
            }
        }
        int end = TEXT.indexOf("## Not promised");
        StringBuilder unsaid = new StringBuilder();
        for (int i = TEXT.indexOf("==== 1"); i < end; i++) {
            if (!SAID[i] && Character.isLetterOrDigit(TEXT.charAt(i))) {
                unsaid.append(SAID[i - 1] ? " .. " : "").append(TEXT.charAt(i));
            }
        }
        Due.due("words without a test:" + unsaid, unsaid.length(), 0);
    }
}
