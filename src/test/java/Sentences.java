import java.io.IOException;
import java.nio.file.Files;
import java.nio.file.Path;
import java.util.List;

/**
 * The document's sentences, each with a test of its own. What is quoted must stand in the document
 * where it is said to stand, something must be asked for each quote, and no word of the document may
 * be left that nothing quotes.
 */
final class Sentences {
    private static final Path DOCUMENT = Path.of("../shared/DOC.md");
    private static final int PROMISES = 36;

    private final Checks checks = new Checks();
    private final String document;
    private final boolean[] isQuoted;
    private String quote = "";
    private int askedForIt = 1;

    Sentences() throws IOException {
        document = Files.readString(DOCUMENT);
        isQuoted = new boolean[document.length()];
        for (String head : new String[] {"# FailBadge\n", "## What it is\n", "## The public face\n",
            "```java\n", "## Terms\n", "```text\n", "==== I.\n", "==== II.", "==== III.",
            "## Not promised\n"}) {
            checks.due("the document has " + head.strip(), document.contains(head) ? 1 : 0, 1);
            for (int at = document.indexOf(head); at >= 0; at = document.indexOf(head, at + 1)) {
                pass(at, at + head.length());
            }
        }
        for (int promise = 1; promise <= PROMISES; promise++) {
            int head = document.indexOf("\n## Promise " + promise + ":");
            // What a promise says stands behind its name and the call.
            pass(head, document.indexOf("`: ", head) + 3);
        }
    }

    private void pass(int from, int to) {
        for (int i = Math.max(0, from); i < to; i++) {
            isQuoted[i] = true;
        }
    }

    /** What follows tests a sentence of what stands ahead of the face. */
    void whatItIs(String words) {
        begin("what it is: ", words, 0, document.indexOf("\n## The public face\n"));
    }

    /** What follows tests a line of the face. */
    void face(String words) {
        begin("face: ", words, document.indexOf("\n## The public face\n"),
                document.indexOf("\n## Terms\n"));
    }

    List<String> linesOfFace() {
        int from = document.indexOf("```java\n") + 8;
        String lines = document.substring(from, document.indexOf("```", from));
        return lines.lines().map(String::strip).filter(line -> line.length() > 1).toList();
    }

    /** What follows tests a sentence of the terms. */
    void terms(String words) {
        begin("terms: ", words, document.indexOf("\n## Terms\n"),
                document.indexOf("\n## Promise 1:"));
    }

    /** What follows tests a sentence of what is not promised. */
    void notPromised(String words) {
        begin("not promised: ", words, document.indexOf("\n## Not promised\n"), document.length());
    }

    /** What follows tests a sentence of a promise. */
    void promise(int number, String words) {
        int from = document.indexOf("\n## Promise " + number + ":");
        begin("promise " + number + ": ", words, from, document.indexOf("\n## ", from + 1));
    }

    private void begin(String where, String words, int from, int to) {
        endOfQuote();
        quote = where + words;
        askedForIt = 0;
        int at = document.indexOf(words, from);
        if (at < 0 || at + words.length() > to) {
            checks.due("the document does not say, " + quote, 0, 1);
            return;
        }
        // Of the same words the first that no test has quoted yet are meant.
        while (isQuoted[at] && document.indexOf(words, at + 1) >= 0
                && document.indexOf(words, at + 1) + words.length() <= to) {
            at = document.indexOf(words, at + 1);
        }
        pass(at, at + words.length());
    }

    private void endOfQuote() {
        if (askedForIt == 0) {
            checks.due("nothing is asked for " + quote, 0, 1);
        }
    }

    void due(String call, long got, long want) {
        askedForIt++;
        checks.due("[" + quote + "] " + call, got, want);
    }

    /** Nothing may have happened by a call that is refused. */
    void refused(FailBadge badge, String before, String call, long got, long want) {
        due(call, got, want);
        due("all is as it was behind " + call, Checks.everything(badge).equals(before) ? 1 : 0, 1);
    }

    /** A company to which something of all sorts has happened: a RULE, ACTS, a NOTE, x. */
    static FailBadge busyCompany() {
        FailBadge b = Checks.company("camp 1 2;calm 3;calm 4;kind 9;kind 2;scout;scout", "try hard");
        b.day();
        b.attempt(1, 1);
        b.note(0, 0, 0, 1);
        b.seed(77);
        return b;
    }

    void close() {
        endOfQuote();
        int at = 0;
        while (at < document.length()) {
            int to = at;
            while (to < document.length() && !isQuoted[to]) {
                to++;
            }
            String left = document.substring(at, to);
            if (left.chars().anyMatch(Character::isLetterOrDigit)) {
                checks.due("no test quotes: " + left.strip(), 0, 1);
            }
            at = to + 1;
        }
        checks.close();
    }
}
