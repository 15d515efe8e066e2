import java.io.IOException;
import java.lang.reflect.Constructor;
import java.lang.reflect.Field;
import java.lang.reflect.Method;
import java.lang.reflect.Modifier;
import java.nio.file.Files;
import java.nio.file.Path;
import java.util.Set;
import java.util.TreeSet;

/** The public face is the document's, and what LANGUAGE.md says of names, fields and classes. */
public final class FaceTest {
    private static final String[] FACE = {
        "int land(int,int,int,boolean)", "int isLand(int,int)", "int tide(int,int,int,int)",
        "long carries(int,int,int,int)", "int set(int,int)", "int swimmer(int,int,int)",
        "int feed(int,int)", "int pace(int,int,int)", "int swim(int,int,int,int,int)",
        "int ended(int)", "int where(int)", "int best(int,int,int)", "int ends(int,int,int,int)",
        "int ship(int,int,int,int)", "int near(int)", "int lanes()", "int stroke(int)",
        "int strokes()", "int stop(int,int)", "int floor(int)", "int order(int)", "int turn(int)",
        "int voided()", "int calm(int,boolean)", "int slot(int,int,int,int)", "int done()",
        "int goes(int,int)", "int count(int)", "int keep(int,int,int)", "int make(int,int,int)",
        "long element(int,int)", "int copy(int,int,int,int,int)", "int weight(int)",
        "int toss(int)"};

    public static void main(String[] args) throws IOException {
        face();
        language();
        source();
        Check.finish();
    }

    private static String signature(Method m) {
        StringBuilder text = new StringBuilder(m.getReturnType() + " " + m.getName() + "(");
        for (int i = 0; i < m.getParameterCount(); i++) {
            text.append(i == 0 ? "" : ",").append(m.getParameterTypes()[i]);
        }
        return text.append(")").toString();
    }

    private static void face() {
        Set<String> want = new TreeSet<>(Set.of(FACE));
        Set<String> got = new TreeSet<>();
        for (Method m : StraitSwim.class.getDeclaredMethods()) {
            if (!Modifier.isPrivate(m.getModifiers()) && !m.isSynthetic()) {
                got.add(signature(m));
                Check.holds("public alone: " + m, m.getModifiers() == Modifier.PUBLIC);
            }
        }
        Check.holds("the calls of the face, not " + got, got.equals(want));
        Check.holds("a public final class",
                StraitSwim.class.getModifiers() == (Modifier.PUBLIC | Modifier.FINAL));
        Constructor<?>[] made = StraitSwim.class.getDeclaredConstructors();
        Check.holds("one public constructor", made.length == 1
                && made[0].getModifiers() == Modifier.PUBLIC && made[0].getParameterCount() == 0);
    }

    private static void language() {
        Set<String> faceNames = new TreeSet<>();
        for (String call : FACE) {
            faceNames.add(call.substring(call.indexOf(' ') + 1, call.indexOf('(')));
        }
        for (Method m : StraitSwim.class.getDeclaredMethods()) {
            if (Modifier.isPrivate(m.getModifiers())) {
                Check.holds("rule 1, another name: " + m, !faceNames.contains(m.getName()));
            }
            Check.holds("rule 11, seven parameters: " + m, m.getParameterCount() <= 7);
        }
        Class<?>[] inside = StraitSwim.class.getDeclaredClasses();
        Check.holds("rule 11, twelve classes", inside.length <= 12);
        fields(StraitSwim.class);
        for (Class<?> c : inside) {
            Check.holds("rule 1, static: " + c, Modifier.isStatic(c.getModifiers()));
            fields(c);
            for (Method m : c.getDeclaredMethods()) {
                Check.holds("another name: " + m, !faceNames.contains(m.getName()));
            }
        }
    }

    private static void fields(Class<?> c) {
        int own = 0;
        for (Field f : c.getDeclaredFields()) {
            if (Modifier.isStatic(f.getModifiers())) {
                Check.holds("rule 5, final: " + f, Modifier.isFinal(f.getModifiers()));
            } else {
                own++;
            }
            Check.holds("no field of the face: " + f,
                    c != StraitSwim.class || Modifier.isPrivate(f.getModifiers()));
        }
        Check.holds("rule 11, twenty fields: " + c, own <= 20);
    }

    private static void source() throws IOException {
        String text = Files.readString(Path.of("src/main/java/StraitSwim.java"));
        String[] never = {"finally", "assert ", "synchronized", "->", "::", "getMessage", "Exact(",
            "System.out", "currentTimeMillis", "nanoTime", "Random", "ArrayIndexOutOfBounds",
            "NullPointer", "ClassCast", "NegativeArraySize", "ArrayStore", "catch (Exception",
            "catch (RuntimeException", "catch (Throwable", "catch (ArithmeticException",
            "catch (IndexOutOfBounds", "\nimport java.io", "\nimport java.util.*", "\npackage "};
        for (String word : never) {
            Check.holds("not in the source: " + word.trim(), !text.contains(word));
        }
    }
}
