import java.io.IOException;
import java.nio.file.Files;
import java.nio.file.Path;
import java.util.Set;
import java.util.TreeSet;

/** Checks of a boundary case, each under the sentence of the document that names it. */
final class Edge {
    private static final Path DOCUMENT = Path.of("../shared/DOC.md");
    private static final String WORDS = words();
    private static final Set<Integer> SEEN = new TreeSet<>();
    private static String label = "";

    private Edge() {
    }

    private static String words() {
        try {
            return Files.exists(DOCUMENT) ? plain(Files.readString(DOCUMENT)) : "";
        } catch (IOException e) {
            return "";
        }
    }

    private static String plain(String text) {
        return text.replace("`", "").replaceAll("\\s+", " ");
    }

    /** The checks behind this call are about these words, which bind this promise. */
    static void says(int promise, String sentence) {
        label = "promise " + promise + " (" + sentence + "): ";
        SEEN.add(promise);
        if (!WORDS.isEmpty()) {
            Check.that(label + "stands in the document", WORDS.contains(plain(sentence)), true);
        }
    }

    static void that(String what, Object got, Object want) {
        Check.that(label + what, got, want);
    }

    static void throwsIndex(String what, Check.Call call) {
        Check.refuses(label + what, IndexOutOfBoundsException.class, call);
    }

    static void throwsNoSuch(String what, Check.Call call) {
        Check.refuses(label + what, java.util.NoSuchElementException.class, call);
    }

    static void throwsArgument(String what, Check.Call call) {
        Check.refuses(label + what, IllegalArgumentException.class, call);
    }

    static void throwsState(String what, Check.Call call) {
        Check.refuses(label + what, IllegalStateException.class, call);
    }

    /** The text has no error. */
    static void correct(String text) {
        that("text " + text, Texts.verdict(text), "ok");
    }

    /** The text has an error of this kind; the mark ^ stands before its offset. */
    static void wrong(int kind, String marked) {
        int offset = marked.indexOf('^');
        String text = marked.substring(0, offset) + marked.substring(offset + 1);
        that("text " + marked, Texts.verdict(text), kind + "@" + offset);
    }

    /** Fails unless each of these promises had a sentence. */
    static void done(String test, int... promises) {
        for (int promise : promises) {
            Check.that("promise " + promise + " has edges", SEEN.contains(promise), true);
        }
        Check.done(test);
    }
}
