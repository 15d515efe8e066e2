import java.io.IOException;
import java.nio.file.Files;
import java.nio.file.Path;
import java.util.ArrayList;
import java.util.List;
import java.util.stream.Stream;

/** Every sentence of the Terms and of the promises is named by a test, with Check's calls. */
public final class DocTest {
    private static final String TERMS = "Check.terms(";
    private static final String PROMISE = "Check.promise(";

    public static void main(String[] args) throws IOException {
        List<String> ofTerms = new ArrayList<>();
        List<List<String>> ofPromises = new ArrayList<>();
        for (int number = 0; number <= Doc.PROMISES; number++) {
            ofPromises.add(new ArrayList<>());
        }
        for (String source : sources()) {
            for (String named : calls(source, TERMS)) {
                ofTerms.add(literals(named));
            }
            for (String named : calls(source, PROMISE)) {
                int number = Integer.parseInt(named.substring(0, named.indexOf(',')).trim());
                ofPromises.get(number).add(literals(named));
            }
        }
        covered("the Terms", Doc.terms(), ofTerms);
        for (int number = 1; number <= Doc.PROMISES; number++) {
            covered("promise " + number, Doc.promise(number), ofPromises.get(number));
        }
        Check.finish();
    }

    private static List<String> sources() throws IOException {
        List<String> all = new ArrayList<>();
        try (Stream<Path> files = Files.list(Path.of("src/test/java"))) {
            for (Path file : files.sorted().toList()) {
                if (file.toString().endsWith("Test.java") && !file.endsWith("DocTest.java")) {
                    all.add(Files.readString(file));
                }
            }
        }
        return all;
    }

    /** What stands between the brackets of each such call. */
    private static List<String> calls(String source, String name) {
        List<String> all = new ArrayList<>();
        for (int at = source.indexOf(name); at >= 0; at = source.indexOf(name, at + 1)) {
            int start = at + name.length();
            all.add(source.substring(start, source.indexOf("\");", start) + 1));
        }
        return all;
    }

    /** The texts of a call, joined. */
    private static String literals(String call) {
        StringBuilder text = new StringBuilder();
        String[] parts = call.split("\"");
        for (int i = 1; i < parts.length; i += 2) {
            text.append(parts[i]);
        }
        return text.toString();
    }

    private static void covered(String what, String text, List<String> named) {
        StringBuilder rest = new StringBuilder(text);
        for (String words : named) {
            for (int at = text.indexOf(words); at >= 0; at = text.indexOf(words, at + 1)) {
                for (int i = at; i < at + words.length(); i++) {
                    rest.setCharAt(i, ' ');
                }
            }
        }
        String left = rest.toString().replaceAll("\\s+", " ").trim();
        Check.holds(what + " has words that no test names: " + left,
                left.chars().noneMatch(Character::isLetterOrDigit));
    }
}
