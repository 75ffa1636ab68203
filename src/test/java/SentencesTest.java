import java.io.IOException;
import java.nio.file.DirectoryStream;
import java.nio.file.Files;
import java.nio.file.Path;
import java.util.ArrayList;
import java.util.List;
import java.util.regex.Matcher;
import java.util.regex.Pattern;

/** Each paragraph of the terms and each promise of the document is opened by a test. */
public final class SentencesTest {
    private static final Path DOCUMENT = Path.of("../shared/DOC.md");
    private static final Path TESTS = Path.of("src/test/java");
    private static final Pattern PART = Pattern.compile("the\\.part\\(\"([^\"]+)\"\\)");

    private static List<String> openedParts() throws IOException {
        List<String> parts = new ArrayList<>();
        try (DirectoryStream<Path> files = Files.newDirectoryStream(TESTS, "*Test.java")) {
            for (Path file : files) {
                Matcher matcher = PART.matcher(Files.readString(file));
                while (matcher.find()) {
                    parts.add(matcher.group(1));
                }
            }
        }
        return parts;
    }

    private static boolean isOpened(String block, List<String> parts) {
        for (String part : parts) {
            if (block.startsWith("## ") ? block.lines().findFirst().orElse("").equals(part) : block.startsWith(part)) {
                return true;
            }
        }
        return false;
    }

    public static void main(String[] args) throws IOException {
        Due due = new Due();
        if (Files.exists(DOCUMENT)) {
            String document = Files.readString(DOCUMENT);
            List<String> parts = openedParts();
            String terms = document.substring(document.indexOf("## Terms") + 8, document.indexOf("Examples: "));
            for (String paragraph : terms.strip().split("\n\n")) {
                due.is("whether a test opens " + paragraph, isOpened(paragraph, parts) ? 1 : 0, 1);
            }
            for (String section : document.split("\n(?=## )")) {
                if (section.startsWith("## Promise ")) {
                    due.is("whether a test opens " + section, isOpened(section, parts) ? 1 : 0, 1);
                }
            }
        }
        due.end();
    }
}
