import java.io.IOException;
import java.nio.file.Files;
import java.nio.file.Path;

/** The document's text, so that a test can show that the words which it tests stand in it. */
final class Document {
    private static final Path PATH = Path.of("../shared/DOC.md");

    private final String text;

    Document() throws IOException {
        text = Files.isReadable(PATH) ? Files.readString(PATH).replaceAll("[ \t]+", " ") : "";
    }

    boolean isHere() {
        return !text.isEmpty();
    }

    /** Whether the part with this heading has these words. */
    boolean says(String heading, String words) {
        int from = text.indexOf("\n## " + heading);
        if (from < 0) {
            return false;
        }
        int to = text.indexOf("\n## ", from + 1);
        return text.substring(from, to < 0 ? text.length() : to).contains(words);
    }
}
