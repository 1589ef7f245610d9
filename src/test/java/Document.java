import java.io.IOException;
import java.io.UncheckedIOException;
import java.nio.charset.StandardCharsets;
import java.nio.file.Files;
import java.nio.file.Paths;

/** The document as one row of words with single blanks between them. Read from the project's folder. */
final class Document {
    private static String text = null;

    private Document() {
    }

    static String text() {
        if (text == null) {
            text = read("../shared/DOC.md").replaceAll("\\s+", " ");
        }
        return text;
    }

    static String read(String path) {
        try {
            return new String(Files.readAllBytes(Paths.get(path)), StandardCharsets.UTF_8);
        } catch (IOException e) {
            throw new UncheckedIOException(e);
        }
    }
}
