/**
 * What every test of the project shares: it prints each wrong answer and counts them. A test of a
 * sentence names it first, with terms() or promise(), and what is asked then is asked for it.
 */
final class Check {
    /** Stands for an exception where answers are compared as numbers. */
    static final long THREW_ARGUMENT = Long.MIN_VALUE;
    static final long THREW_STATE = Long.MIN_VALUE + 1;

    private static String about = "";
    private static int asked = 0;
    private static int wrong = 0;

    private Check() {
    }

    /** A sentence of the document's Terms, in its own words. */
    static void terms(String words) {
        about = "";
        holds("the Terms say: " + words, Doc.terms().contains(words));
        about = "[" + words + "] ";
    }

    /** A sentence of a promise, in its own words. */
    static void promise(int number, String words) {
        about = "";
        holds("promise " + number + " says: " + words, Doc.promise(number).contains(words));
        about = "[promise " + number + ": " + words + "] ";
    }

    static void due(String what, long got, long want) {
        asked++;
        if (got != want) {
            wrong++;
            System.out.println(about + what + " answered " + got + ", due is " + want);
        }
    }

    static void holds(String what, boolean is) {
        asked++;
        if (!is) {
            wrong++;
            System.out.println(about + "does not hold: " + what);
        }
    }

    static long carries(StraitSwim s, int x, int y, int quarter, int side) {
        try {
            return s.carries(x, y, quarter, side);
        } catch (IllegalArgumentException e) {
            return THREW_ARGUMENT;
        }
    }

    static long element(StraitSwim s, int d, int i) {
        try {
            return s.element(d, i);
        } catch (IllegalArgumentException e) {
            return THREW_ARGUMENT;
        } catch (IllegalStateException e) {
            return THREW_STATE;
        }
    }

    static void finish() {
        System.out.println(asked + " asked, " + wrong + " wrong");
        if (wrong != 0) {
            System.exit(1);
        }
    }
}
