import java.io.IOException;
import java.lang.reflect.Method;
import java.lang.reflect.Modifier;
import java.nio.file.Files;
import java.nio.file.Path;
import java.util.ArrayList;
import java.util.List;
import java.util.Set;
import java.util.TreeSet;
import java.util.regex.Matcher;
import java.util.regex.Pattern;

/** The calls that README.md shows are run and answer what stands behind them. */
public final class ReadmeTest {
    private static final int MOST_CALLS = 512;
    private static final String NEW_OBJECT = "StraitSwim s = new StraitSwim();";
    private static final Pattern EXAMPLE = Pattern.compile(
            "s\\.(\\w+)\\(([^()]*)\\); +// (-?\\d+|throws \\w+)(: .+)?");
    private static final Pattern NAMED = Pattern.compile("`([^`\\s]*/[^`\\s]*)`");

    private static final Set<String> shown = new TreeSet<>();

    public static void main(String[] args) throws IOException {
        List<String> lines = Files.readAllLines(Path.of("README.md"));
        List<List<String>> pieces = pieces(lines, "```java");
        Check.holds("README.md has examples", !pieces.isEmpty());
        for (List<String> piece : pieces) {
            run(piece);
        }
        Check.holds("README.md shows every call, not " + shown + " alone", shown.equals(face()));
        Check.holds("every piece of code is looked at",
                pieces.size() + pieces(lines, "```sh").size() == fences(lines) / 2);
        commands(pieces(lines, "```sh"));
        named(String.join("\n", lines));
        Check.finish();
    }

    /** The lines of each piece that begins with such a fence. */
    private static List<List<String>> pieces(List<String> lines, String fence) {
        List<List<String>> all = new ArrayList<>();
        List<String> open = null;
        for (String line : lines) {
            if (line.equals(fence)) {
                open = new ArrayList<>();
                all.add(open);
            } else if (line.startsWith("```")) {
                open = null;
            } else if (open != null && !line.isBlank()) {
                open.add(line);
            }
        }
        return all;
    }

    private static long fences(List<String> lines) {
        return lines.stream().filter(line -> line.startsWith("```")).count();
    }

    private static void run(List<String> piece) {
        Check.holds("begins with an object: " + piece, piece.get(0).equals(NEW_OBJECT));
        Check.holds("has at most 512 calls: " + piece, piece.size() - 1 <= MOST_CALLS);
        StraitSwim s = new StraitSwim();
        for (String line : piece.subList(1, piece.size())) {
            Matcher example = EXAMPLE.matcher(line);
            if (example.matches()) {
                String name = example.group(1);
                Calls.Call call = new Calls.Call(name, arguments(example.group(2)));
                Check.due("README.md: " + line, Calls.answer(s, call), due(example.group(3)));
                shown.add(name);
            } else {
                Check.holds("README.md: an example with its answer: " + line, false);
            }
        }
    }

    private static Object[] arguments(String text) {
        List<Object> all = new ArrayList<>();
        for (String word : text.isEmpty() ? new String[0] : text.split(", ")) {
            if (word.equals("true") || word.equals("false")) {
                all.add(word.equals("true"));
            } else if (word.startsWith("0b")) {
                all.add(Integer.parseInt(word.substring(2), 2));
            } else {
                all.add(Integer.decode(word));
            }
        }
        return all.toArray();
    }

    private static long due(String answer) {
        switch (answer) {
            case "throws IllegalArgumentException":
                return Check.THREW_ARGUMENT;
            case "throws IllegalStateException":
                return Check.THREW_STATE;
            default:
                return Long.parseLong(answer);
        }
    }

    private static Set<String> face() {
        Set<String> names = new TreeSet<>();
        for (Method m : StraitSwim.class.getDeclaredMethods()) {
            if (Modifier.isPublic(m.getModifiers())) {
                names.add(m.getName());
            }
        }
        return names;
    }

    /** How to run the tests: the script is there, and a test that is run alone is one. */
    private static void commands(List<List<String>> pieces) {
        Set<String> all = new TreeSet<>();
        pieces.forEach(all::addAll);
        Check.holds("README.md tells to run .ci/run", all.contains(".ci/run"));
        Check.holds(".ci/run is there", Files.isRegularFile(Path.of(".ci/run")));
        for (String command : all) {
            if (command.startsWith("java ")) {
                String test = command.substring(command.lastIndexOf(' ') + 1);
                Check.holds("a test: " + command,
                        Files.isRegularFile(Path.of("src/test/java", test + ".java")));
            }
        }
    }

    private static void named(String text) {
        Matcher path = NAMED.matcher(text);
        while (path.find()) {
            Check.holds("README.md names " + path.group(1) + ", which is there",
                    Files.exists(Path.of(path.group(1))));
        }
    }
}
