import java.io.IOException;
import java.io.UncheckedIOException;
import java.nio.file.Files;
import java.nio.file.Path;

/** The words of the document, so that a test's sentence is one that stands there. */
final class Doc {
    static final int PROMISES = 35;

    private static final String TEXT = read();

    private Doc() {
    }

    private static String read() {
        try {
            return Files.readString(Path.of("../shared/DOC.md"));
        } catch (IOException e) {
            throw new UncheckedIOException(e);
        }
    }

    /** What the document says ahead of its face of how an object is used. */
    static String use() {
        return plain(between("An object is used", "## The public face"));
    }

    /** The Terms without their last lines, which say only where the calls stand. */
    static String terms() {
        return plain(use() + " " + between("## Terms", "Ahead of the calls").substring(8));
    }

    /** A promise without its heading and its call. */
    static String promise(int number) {
        String next = number == PROMISES ? "## Not promised" : "## Promise " + (number + 1) + ":";
        String all = between("## Promise " + number + ":", next);
        return plain(all.substring(all.indexOf("`: ") + 3));
    }

    private static String between(String from, String to) {
        int start = TEXT.indexOf(from);
        return TEXT.substring(start, TEXT.indexOf(to, start));
    }

    private static String plain(String text) {
        return text.replace("```text", " ").replace("```", " ")
                .replaceAll("==== \\d", " ").replaceAll("\\s+", " ").trim();
    }
}
