import java.io.IOException;
import java.nio.file.Files;
import java.nio.file.Path;
import java.util.Map;
import java.util.TreeMap;

/** The document's text by its parts, so that a test can not quote what the document does not say. */
final class Document {
    private final Map<String, String> parts = new TreeMap<>();

    private Document(String text) {
        for (String part : text.split("(?m)^## ")) {
            int headEnd = part.indexOf('\n');
            if (headEnd > 0) {
                String heading = part.substring(0, headEnd).strip();
                parts.put(heading.replaceFirst("^(Promise \\d+):.*", "$1"), plain(part.substring(headEnd)));
            }
        }
    }

    /** Null when nobody told where the document is: the tests can be run without it. */
    static Document orNull() {
        String told = System.getProperty("doc");
        try {
            return told == null || !Files.exists(Path.of(told)) ? null : new Document(Files.readString(Path.of(told)));
        } catch (IOException e) {
            return null;
        }
    }

    boolean says(String part, String words) {
        return parts.getOrDefault(part, "").contains(plain(words));
    }

    private static String plain(String text) {
        return text.replaceAll("\\s+", " ");
    }
}
