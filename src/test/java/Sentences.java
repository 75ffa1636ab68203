import java.io.IOException;
import java.nio.file.Files;
import java.nio.file.Path;
import java.util.function.IntUnaryOperator;

/**
 * Answers that are due by a sentence of the document. The sentence is looked up there, and all
 * that a test opens of the document has to be named by sentences, so that none is forgotten.
 */
final class Sentences {
    private static final Path DOCUMENT = Path.of("../shared/DOC.md");
    /** Arguments of which nothing but the name is told. */
    private static final String BARE_ARGUMENT = "(?m)^- `\\w+`:[^0-9]*?$";
    private static final String CODE = "`[^`]*`";

    private final Due due = new Due();
    private final String document;
    private String part = "";
    private String text = "";
    private boolean[] isNamed = new boolean[0];
    private String sentence = "";

    Sentences() throws IOException {
        document = Files.exists(DOCUMENT) ? Files.readString(DOCUMENT) : "";
        if (document.isEmpty()) {
            System.out.println("no document at " + DOCUMENT + ": the sentences are not looked up");
        }
    }

    /** Opens a section, if it begins with "## ", or the paragraph that begins so. */
    void part(String beginning) {
        closePart();
        part = beginning;
        if (document.isEmpty()) {
            return;
        }
        int start = document.indexOf("\n" + beginning) + 1;
        due.is("whether the document has the part " + beginning, start > 0 ? 1 : 0, 1);
        String border = beginning.startsWith("## ") ? "\n## " : "\n\n";
        int end = document.indexOf(border, start);
        String whole = document.substring(start, end < 0 ? document.length() : end);
        text = plain(beginning.startsWith("## ") ? whole.substring(beginning.length()) : whole);
        isNamed = new boolean[text.length()];
    }

    private static String plain(String whole) {
        return whole.replaceAll(BARE_ARGUMENT, " ").replaceAll(CODE, " ").replaceAll("\\s+", " ");
    }

    /** What follows is due by this sentence, or by this part of one. */
    void says(String words) {
        sentence = words;
        if (document.isEmpty()) {
            return;
        }
        int start = text.indexOf(words);
        while (start >= 0 && isNamed[start]) {
            start = text.indexOf(words, start + 1);
        }
        due.is("whether the document says \"" + words + "\" in " + part, start >= 0 ? 1 : 0, 1);
        for (int index = 0; start >= 0 && index < words.length(); index++) {
            isNamed[start + index] = true;
        }
    }

    private void closePart() {
        StringBuilder unnamed = new StringBuilder();
        for (int index = 0; index < text.length(); index++) {
            unnamed.append(isNamed[index] ? '|' : text.charAt(index));
        }
        String rest = unnamed.toString().replaceAll("\\|+", "|").replaceAll("[^A-Za-z0-9|]+", " ");
        if (rest.matches(".*[A-Za-z0-9].*")) {
            due.isText("the tests of " + part + " leave out what else it says:", rest, "");
        }
        text = "";
    }

    void is(String call, long got, long want) {
        due.is(labelled(call), got, want);
    }

    /** Numbers just outside of a range, and the strangest ones, answer so. */
    void isOutside(String call, IntUnaryOperator asked, int least, int most, int want) {
        int[] numbers = {least - 1, most + 1, Integer.MIN_VALUE, Integer.MAX_VALUE};
        for (int number : numbers) {
            is(call + " of " + number, asked.applyAsInt(number), want);
        }
    }

    void isExactly(String call, double got, double want) {
        due.isExactly(labelled(call), got, want);
    }

    void isText(String call, String got, String want) {
        due.isText(labelled(call), got, want);
    }

    private String labelled(String call) {
        return part + ", \"" + sentence + "\": " + call;
    }

    void end() {
        closePart();
        due.end();
    }
}
