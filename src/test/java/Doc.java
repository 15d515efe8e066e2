import java.io.IOException;
import java.io.UncheckedIOException;
import java.nio.file.Files;
import java.nio.file.Path;
import java.util.ArrayList;
import java.util.List;

/** The words of the document, so that a test's sentence is one that stands there. */
final class Doc {
    static final int PROMISES = 35;

    private static final String AHEAD = "Ahead of the calls";
    private static final String TEXT = read();

    private Doc() {
    }

    private static String read() {
        try {
            return Files.readString(Path.of("../shared/DOC.md"));
        } catch (IOException e) {
            throw new UncheckedIOException(e);
        }
    }

    /** What the document says ahead of its face of how an object is used. */
    static String use() {
        return plain(between("An object is used", "## The public face"));
    }

    /**
     * The Terms and what stands ahead of them: the first line ends in the middle of a sentence,
     * and the Terms go on with it. The face and where its calls stand are left to FaceTest.
     */
    static String terms() {
        String first = between("Over a strait", "An object is used");
        String rest = between("## Terms", AHEAD).substring("## Terms".length());
        return plain(use() + " " + first + " " + rest);
    }

    /** The lines of the public face, without the class's own. */
    static List<String> face() {
        List<String> lines = new ArrayList<>();
        for (String line : between("## The public face", "## Terms").split("\n")) {
            if (line.startsWith("    public ")) {
                lines.add(line.substring(4, line.indexOf(';')));
            }
        }
        return lines;
    }

    /** The sentences that say which heading stands ahead of which calls. */
    static List<String> headings() {
        List<String> lines = new ArrayList<>();
        for (String line : between(AHEAD, "## Promise 1:").split("\n")) {
            if (line.startsWith(AHEAD)) {
                lines.add(line);
            }
        }
        return lines;
    }

    /** A promise without its heading and its call. */
    static String promise(int number) {
        String next = number == PROMISES ? "## Not promised" : "## Promise " + (number + 1) + ":";
        String all = between("## Promise " + number + ":", next);
        return plain(all.substring(all.indexOf("`: ") + 3));
    }

    private static String between(String from, String to) {
        int start = TEXT.indexOf(from);
        return TEXT.substring(start, TEXT.indexOf(to, start));
    }

    private static String plain(String text) {
        return text.replace("```text", " ").replace("```", " ")
                .replaceAll("==== \\d", " ").replaceAll("\\s+", " ").trim();
    }
}
