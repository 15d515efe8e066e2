import java.io.IOException;
import java.lang.reflect.Constructor;
import java.lang.reflect.Executable;
import java.lang.reflect.Field;
import java.lang.reflect.Method;
import java.lang.reflect.Modifier;
import java.nio.file.Files;
import java.nio.file.Path;
import java.util.Set;
import java.util.TreeSet;
import java.util.regex.Matcher;
import java.util.regex.Pattern;

/** The public face is the document's, and what LANGUAGE.md says of names, fields and classes. */
public final class FaceTest {
    private static final String CLASS = "public final class StraitSwim {";

    public static void main(String[] args) throws IOException {
        face();
        language();
        String text = Files.readString(Path.of("src/main/java/StraitSwim.java"));
        order(text);
        source(text);
        Check.finish();
    }

    /** As a line of the document's face, but that reflection has no names of parameters. */
    private static String signature(Executable call, String answer) {
        StringBuilder text = new StringBuilder(answer).append("(");
        for (int i = 0; i < call.getParameterCount(); i++) {
            text.append(i == 0 ? "" : ", ").append(call.getParameterTypes()[i]);
        }
        text.append(")");
        for (int i = 0; i < call.getExceptionTypes().length; i++) {
            text.append(i == 0 ? " throws " : ", ")
                    .append(call.getExceptionTypes()[i].getSimpleName());
        }
        return text.toString();
    }

    private static void face() {
        Set<String> want = new TreeSet<>();
        for (String line : Doc.face()) {
            want.add(line.replaceAll("(int|boolean) \\w+([,)])", "$1$2"));
        }
        Check.due("a constructor and 34 calls", want.size(), Doc.PROMISES);
        Set<String> got = new TreeSet<>();
        for (Method m : StraitSwim.class.getDeclaredMethods()) {
            if (!Modifier.isPrivate(m.getModifiers()) && !m.isSynthetic()) {
                got.add(signature(m, "public " + m.getReturnType() + " " + m.getName()));
                Check.holds("public alone: " + m, m.getModifiers() == Modifier.PUBLIC);
            }
        }
        for (Constructor<?> made : StraitSwim.class.getDeclaredConstructors()) {
            got.add(signature(made, "public " + made.getName()));
            Check.holds("public alone: " + made, made.getModifiers() == Modifier.PUBLIC);
        }
        Check.holds("the document's face, " + want + ", not " + got, got.equals(want));
        Check.holds("a public final class",
                StraitSwim.class.getModifiers() == (Modifier.PUBLIC | Modifier.FINAL));
    }

    /** Names of parameters too, in the document's order and under its headings. */
    private static void order(String text) {
        Check.holds(CLASS, text.contains("\n" + CLASS + "\n"));
        int at = text.indexOf(CLASS);
        for (String line : Doc.face()) {
            int next = text.indexOf("\n    " + line + " {", at);
            Check.holds("in the document's order: " + line, next > at);
            at = Math.max(at, next);
        }
        Check.due("headings", Doc.headings().size(), 4);
        for (String sentence : Doc.headings()) {
            String heading = sentence.substring(sentence.indexOf("----"), sentence.length() - 1);
            String[] parts = sentence.split("`");
            for (int i = 1; i < parts.length; i += 2) {
                String ahead = text.split("\n    public \\w+ " + parts[i] + "\\(")[0];
                Check.holds(parts[i] + " under " + heading, ahead.startsWith(
                        "// " + heading + "\n", Math.max(0, ahead.lastIndexOf("// ----"))));
            }
        }
    }

    private static void language() {
        Set<String> faceNames = new TreeSet<>();
        for (String line : Doc.face()) {
            faceNames.add(line.substring(line.lastIndexOf(' ', line.indexOf('(')) + 1,
                    line.indexOf('(')));
        }
        for (Method m : StraitSwim.class.getDeclaredMethods()) {
            if (Modifier.isPrivate(m.getModifiers())) {
                Check.holds("rule 1, another name: " + m, !faceNames.contains(m.getName()));
            }
            Check.holds("rule 11, seven parameters: " + m, m.getParameterCount() <= 7);
        }
        Class<?>[] inside = StraitSwim.class.getDeclaredClasses();
        Check.holds("rule 11, twelve classes", inside.length <= 12);
        fields(StraitSwim.class);
        for (Class<?> c : inside) {
            Check.holds("rule 1, static: " + c, Modifier.isStatic(c.getModifiers()));
            fields(c);
            for (Method m : c.getDeclaredMethods()) {
                Check.holds("another name: " + m, !faceNames.contains(m.getName()));
            }
        }
    }

    private static void fields(Class<?> c) {
        int own = 0;
        for (Field f : c.getDeclaredFields()) {
            if (Modifier.isStatic(f.getModifiers())) {
                Check.holds("rule 5, final: " + f, Modifier.isFinal(f.getModifiers()));
            } else {
                own++;
            }
            Check.holds("no field of the face: " + f,
                    c != StraitSwim.class || Modifier.isPrivate(f.getModifiers()));
        }
        Check.holds("rule 11, twenty fields: " + c, own <= 20);
    }

    private static void source(String text) {
        String[] never = {"finally", "assert ", "synchronized", "->", "::", "getMessage", "Exact(",
            "System.out", "currentTimeMillis", "nanoTime", "Random", "ArrayIndexOutOfBounds",
            "NullPointer", "ClassCast", "NegativeArraySize", "ArrayStore", "catch (Exception",
            "catch (RuntimeException", "catch (Throwable", "catch (ArithmeticException",
            "catch (IndexOutOfBounds", "\nimport java.io", "\nimport java.util.*", "\npackage "};
        for (String word : never) {
            Check.holds("not in the source: " + word.trim(), !text.contains(word));
        }
        found(text, "\nimport (.+);", "rule 4, imported", "java.util.Arrays");
        found(text, "\\b((?:Math|Integer|Long|Arrays|System|String|List)\\.\\w+)",
                "rule 4, of the library", "Arrays.fill", "Integer.bitCount", "Math.abs",
                "Math.max", "System.arraycopy");
        found(text, "throw (.+?\\()", "rule 6, thrown", "new IllegalArgumentException(",
                "new IllegalStateException(");
        found(text, "catch \\((.+?)\\)", "rule 6, caught", "IllegalStateException e");
        lengths(text);
    }

    /** What the pattern finds in the source is one of these each time. */
    private static void found(String text, String pattern, String what, String... allowed) {
        Matcher matcher = Pattern.compile(pattern).matcher(text);
        while (matcher.find()) {
            Check.holds(what + ": " + matcher.group(1),
                    Set.of(allowed).contains(matcher.group(1)));
        }
    }

    private static void lengths(String text) {
        String[] lines = text.split("\n");
        for (int start = 0; start < lines.length; start++) {
            if (lines[start].matches(" {4,8}[a-zA-Z].*\\(.*") && !lines[start].endsWith(";")) {
                String margin = lines[start].replaceAll("\\S.*", "");
                int end = start;
                while (end < lines.length && !lines[end].equals(margin + "}")) {
                    end++;
                }
                Check.holds("rule 11, sixty lines: " + lines[start], end - start < 60);
            }
        }
    }
}
