import java.io.IOException;
import java.io.UncheckedIOException;
import java.nio.file.Files;
import java.nio.file.Path;
import java.util.Arrays;

/**
 * A part of the document, word by word: each test names the sentence that it tests, the sentence
 * must stand in the part, and each sentence of the part must have been tested.
 */
final class Doc {
    private static final String WHOLE = read();

    private final String name;
    private final String text;
    private final boolean[] tested;
    private int askedAhead = -1;
    private String last = "";

    private Doc(String name, String text) {
        this.name = name;
        this.text = text;
        tested = new boolean[text.length()];
    }

    private static String read() {
        try {
            return Files.readString(Path.of("../shared/DOC.md"));
        } catch (IOException e) {
            throw new UncheckedIOException(e);
        }
    }

    /** A promise without its heading and the line of its call. */
    static Doc promise(int number) {
        String part = between("\n## Promise " + number + ":", "\n## ");
        return new Doc("promise " + number, folded(part.substring(part.indexOf("`: ") + 3)));
    }

    /** What stands between two lines that begin so. */
    static Doc part(String heading, String next) {
        return new Doc(heading, folded(between("\n" + heading, "\n" + next)));
    }

    /** The lines of the class as the document shows it. */
    static String[] face() {
        return between("public final class ClosedStreets {\n", "\n}").split("\n");
    }

    private static String between(String begin, String end) {
        int from = WHOLE.indexOf(begin);
        int behind = from + begin.length();
        return WHOLE.substring(behind, WHOLE.indexOf(end, behind));
    }

    private static String folded(String told) {
        return told.replace("`", "").replaceAll("\\s+", " ").trim();
    }

    /** Begins the test of a sentence, or of a part of one. */
    void says(String words) {
        endLast();
        Due.row(name + " says: " + words, text.contains(words), true);
        for (int at = text.indexOf(words); at >= 0; at = text.indexOf(words, at + 1)) {
            Arrays.fill(tested, at, at + words.length(), true);
        }
        last = words;
        askedAhead = Due.asked();
        Due.by(name + ": " + words);
    }

    private void endLast() {
        Due.by("");
        if (askedAhead >= 0) {
            Due.row(name + " has a test for: " + last, Due.asked() > askedAhead, true);
        }
    }

    /** Ends the test of the part: no word of it may be left without one. */
    void isTested() {
        endLast();
        StringBuilder left = new StringBuilder();
        for (int i = 0; i < tested.length; i++) {
            if (!tested[i] && Character.isLetterOrDigit(text.charAt(i))) {
                left.append(text.charAt(i));
            }
        }
        Due.row("words of " + name + " without a test", left.toString(), "");
    }
}
