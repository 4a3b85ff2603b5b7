import java.io.IOException;
import java.io.UncheckedIOException;
import java.nio.file.Files;
import java.nio.file.Path;

/** The words of the document, so that no test can claim a sentence that does not stand there. */
final class Document {
    private static final Path PLACE = Path.of("../shared/DOC.md");
    private static final String WORDS = read();

    private Document() {
    }

    static boolean says(String sentence) {
        return WORDS.isEmpty() || WORDS.contains(sentence);
    }

    private static String read() {
        if (!Files.exists(PLACE)) {
            return "";
        }
        try {
            return Files.readString(PLACE).replaceAll("\\s+", " ");
        } catch (IOException e) {
            throw new UncheckedIOException(e);
        }
    }
}
