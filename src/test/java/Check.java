/** What every test of the project shares: it prints each wrong answer and counts them. */
final class Check {
    /** Stands for an exception where answers are compared as numbers. */
    static final long THREW_ARGUMENT = Long.MIN_VALUE;
    static final long THREW_STATE = Long.MIN_VALUE + 1;

    private static int asked = 0;
    private static int wrong = 0;

    private Check() {
    }

    static void due(String what, long got, long want) {
        asked++;
        if (got != want) {
            wrong++;
            System.out.println(what + " answered " + got + ", due is " + want);
        }
    }

    static void holds(String what, boolean is) {
        asked++;
        if (!is) {
            wrong++;
            System.out.println("does not hold: " + what);
        }
    }

    static long carries(StraitSwim s, int x, int y, int quarter, int side) {
        try {
            return s.carries(x, y, quarter, side);
        } catch (IllegalArgumentException e) {
            return THREW_ARGUMENT;
        }
    }

    static long element(StraitSwim s, int d, int i) {
        try {
            return s.element(d, i);
        } catch (IllegalArgumentException e) {
            return THREW_ARGUMENT;
        } catch (IllegalStateException e) {
            return THREW_STATE;
        }
    }

    static void finish() {
        System.out.println(asked + " asked, " + wrong + " wrong");
        if (wrong != 0) {
            System.exit(1);
        }
    }
}
