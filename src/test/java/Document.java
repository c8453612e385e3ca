import java.io.IOException;
import java.nio.file.Files;
import java.nio.file.Path;

/** The document, to see that what a test says of it stands there. */
final class Document {
    private static final String TEXT = read(Path.of("..", "shared", "DOC.md"));

    private Document() {
    }

    /** Whether these words stand in what the document says of a promise, or in the terms, which all promises use. */
    static boolean says(int promise, String words) {
        if (TEXT.isEmpty()) {
            return true; // The tests of the class itself need no document.
        }
        String wanted = plain(words);
        return part("## Promise " + promise + ":").contains(wanted) || part("## Terms").contains(wanted)
                || part("## What it is").contains(wanted);
    }

    private static String part(String heading) {
        int from = TEXT.indexOf(heading);
        if (from < 0) {
            return "";
        }
        int to = TEXT.indexOf("\n## ", from);
        return plain(to < 0 ? TEXT.substring(from) : TEXT.substring(from, to));
    }

    private static String plain(String text) {
        return text.replace("`", "").replaceAll("\\s+", " ");
    }

    private static String read(Path path) {
        try {
            return Files.exists(path) ? Files.readString(path) : "";
        } catch (IOException e) {
            throw new IllegalStateException(e);
        }
    }
}
