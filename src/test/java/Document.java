import java.io.IOException;
import java.io.UncheckedIOException;
import java.nio.file.Files;
import java.nio.file.Path;

/** The words of ../shared/DOC.md, so that a test which quotes a sentence is told when the document no longer says it. */
final class Document {
    private static final String WORDS = plain(all());

    private Document() {
    }

    private static String all() {
        try {
            return Files.readString(Path.of("../shared/DOC.md"));
        } catch (IOException noDocument) {
            throw new UncheckedIOException(noDocument);
        }
    }

    private static String plain(String text) {
        return text.replaceAll("\\s+", " ");
    }

    /** Where: "What it is", "Terms 1" to "Terms 3", or "Promise 1" to "Promise 16". */
    static boolean says(String where, String words) {
        boolean block = where.startsWith("Terms ");
        String heading = block ? "======== " + where.substring(6) + " " : "## " + where;
        int begin = WORDS.indexOf(heading + (where.startsWith("Promise") ? ":" : ""));
        if (begin < 0) {
            return false;
        }
        int next = WORDS.indexOf("## ", begin + 3);
        int nextBlock = WORDS.indexOf("======== ", begin + 9);
        int end = next < 0 ? WORDS.length() : next;
        if (block && nextBlock >= 0) {
            end = Math.min(end, nextBlock);
        }
        return WORDS.substring(begin, end).contains(plain(words));
    }
}
