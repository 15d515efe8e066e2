/** Which of several refusals comes first, and that a refused call changes nothing. */
public final class RefusalTest {
    private static final int MIN = Integer.MIN_VALUE;
    private static final int MAX = Integer.MAX_VALUE;
    private static final History NEW = History.NEW;
    private static final History SOME = History.SOME;
    private static final History FULL = History.FULL;

    public static void main(String[] args) {
        noSuchAheadOfFull();
        noSuchAheadOfNotYet();
        noSuchAheadOfLand();
        noSuchAheadOfShelves();
        shelvesInTheirOrder();
        shelfAheadOfElement();
        onlyOneRefusal();
        outOfRangeChangesNothing();
        farOutChangesNothing();
        Check.finish();
    }

    private static void noSuchAheadOfFull() {
        Check.terms("Answers of several refusals are the first one here: -1 no such thing,"
                + " a number out of range, or not as told; -2,");
        for (int kind : new int[] {-1, 4}) {
            FULL.refuses(-1, "swimmer", kind, 1, 1);
        }
        FULL.refuses(-1, "swimmer", 0, 0, 1);
        FULL.refuses(-1, "swimmer", 0, 21, 1);
        FULL.refuses(-1, "swimmer", 0, 1, 0);
        FULL.refuses(-1, "swimmer", 0, 1, 401);
        FULL.refuses(-1, "ship", 240, 0, 0, 0);
        FULL.refuses(-1, "ship", 0, 120, 0, 0);
        FULL.refuses(-1, "ship", 0, 0, 21, 0);
        FULL.refuses(-1, "ship", 0, 0, 0, -21);
        FULL.refuses(-1, "stroke", 100);
        FULL.refuses(-1, "stroke", -1);
        FULL.refuses(-1, "turn", 10);
        FULL.refuses(-1, "turn", -1);
    }

    private static void noSuchAheadOfNotYet() {
        Check.terms("-2, -3,");
        NEW.refuses(-1, "ended", 5);
        NEW.refuses(-1, "ended", -1);
        NEW.refuses(-1, "where", -1);
        NEW.refuses(-1, "where", 101);
        NEW.refuses(-1, "near", 0);
        NEW.refuses(-1, "near", -1);
        NEW.refuses(-1, "turn", 0);
        NEW.refuses(-1, "turn", -1);
    }

    private static void noSuchAheadOfLand() {
        Check.terms("-2, -3, -4,");
        SOME.refuses(-1, "swim", 5, 0, 110, 0, 0);
        SOME.refuses(-1, "swim", 0, 0, 110, 48, 0);
        SOME.refuses(-1, "swim", 0, 0, 110, -1, 0);
        SOME.refuses(-1, "swim", 0, 0, 110, 0, 8);
        SOME.refuses(-1, "swim", 0, 0, 110, 0, -1);
        SOME.refuses(-1, "best", 5, 0, 110);
        SOME.refuses(-1, "best", -1, 0, 110);
        SOME.refuses(-1, "ends", 5, 0, 110, 0);
        SOME.refuses(-1, "ends", 0, 0, 110, 4);
        SOME.refuses(-1, "ends", 0, 0, 110, -1);
        // None says stop, and f or k is out of range.
        NEW.refuses(-1, "stop", 100, 1);
        NEW.refuses(-1, "stop", 0, 11);
        NEW.refuses(-1, "floor", 11);
    }

    private static void noSuchAheadOfShelves() {
        Check.terms("-11 to -15 as told.");
        NEW.refuses(-1, "copy", 8, 0, 0, 0, 0);
        NEW.refuses(-1, "copy", 0, 0, 8, 0, 0);
        SOME.refuses(-1, "copy", 8, 0, 0, 0, 0);
        SOME.refuses(-1, "copy", 2, -1, 8, -1, -1);
        SOME.refuses(-1, "copy", -1, 0, 7, 0, -1);
        NEW.refuses(-1, "make", 8, 3, -1);
        NEW.refuses(-1, "make", -1, 4, -1);
        NEW.refuses(-1, "make", 0, 2, -1);
        NEW.refuses(-1, "make", 0, 5, MIN);
        NEW.refuses(-1, "weight", 8);
        NEW.refuses(-1, "toss", 8);
    }

    private static void shelvesInTheirOrder() {
        Check.terms("the first one here: -1 no such thing, a number out of range, or not as told;"
                + " -2, -3, -4, -11 to -15 as told.");
        // SHELVES 0, 4 hold SWIMMERS, 1, 5 shorts, 2, 3 bytes, 6, 7 nothing.
        SOME.refuses(-11, "copy", 7, 0, 0, 0, 0);
        SOME.refuses(-11, "copy", 0, 0, 7, 0, 0);
        SOME.refuses(-11, "copy", 7, -1, 2, 0, 0);
        SOME.refuses(-11, "copy", 2, 0, 7, 9, 9);
        SOME.refuses(-11, "copy", 0, -1, 6, -1, -1);
        SOME.refuses(-12, "copy", 0, -1, 2, 0, 0);
        SOME.refuses(-12, "copy", 2, 0, 4, 0, -1);
        SOME.refuses(-12, "copy", 1, 0, 2, 99, 99);
        SOME.refuses(-12, "copy", 3, MAX, 5, MAX, MAX);
    }

    private static void shelfAheadOfElement() {
        Check.promise(32, "IllegalArgumentException: no such SHELF; IllegalStateException:");
        for (History h : History.values()) {
            h.refuses(Check.THREW_ARGUMENT, "element", 8, -1);
            h.refuses(Check.THREW_ARGUMENT, "element", -1, MAX);
        }
    }

    private static void onlyOneRefusal() {
        Check.terms("-2, -3, -4, -11 to -15 as told.");
        FULL.refuses(-2, "swimmer", 3, 9, 9);
        FULL.refuses(-2, "ship", 9, 9, 1, 1);
        FULL.refuses(-2, "stroke", 9);
        FULL.refuses(-2, "turn", 1);
        NEW.refuses(-3, "ended", 0);
        NEW.refuses(-3, "where", 0);
        NEW.refuses(-3, "lanes");
        NEW.refuses(-3, "voided");
        SOME.refuses(-4, "swim", 1, 5, 115, 0, 0);
        SOME.refuses(-4, "best", 1, 5, 115);
        SOME.refuses(-4, "ends", 1, 5, 115, 0);
        SOME.refuses(-11, "weight", 7);
        SOME.refuses(-11, "toss", 7);
        SOME.refuses(-12, "weight", 2);
        SOME.refuses(-12, "toss", 2);
        SOME.refuses(-13, "copy", 2, 0, 3, 0, 4);
        SOME.refuses(-14, "make", 2, 4, -1);
        SOME.refuses(-15, "toss", 0);
    }

    private static void outOfRangeChangesNothing() {
        Check.terms("A refused call changes nothing.");
        wrong("land", new Object[] {0, 3, 5, true}, new int[][] {{0, 11}, {0, 5}, {3, 23}});
        wrong("isLand", new Object[] {9, 9}, new int[][] {{0, 239}, {0, 119}});
        wrong("tide", new Object[] {0, 0, 3, 3}, new int[][] {{0, 2}, {0, 11}, {-9, 9}, {-9, 9}});
        wrong("carries", new Object[] {9, 9, 9, 1},
                new int[][] {{0, 239}, {0, 119}, {0, 199}, {0, 1}});
        wrong("set", new Object[] {0, 9}, new int[][] {{0, 1}, {0, 20}});
        wrong("set", new Object[] {1, 9}, new int[][] {{0, 1}, {1, 60}});
        wrong("swimmer", new Object[] {0, 9, 9}, new int[][] {{0, 3}, {1, 20}, {1, 400}});
        wrong("feed", new Object[] {0, 9}, new int[][] {{0, 4}, {0, 40}});
        wrong("pace", new Object[] {0, 9, 0}, new int[][] {{0, 4}, {0, 99}, {0, 1}});
        wrong("swim", new Object[] {0, 9, 50, 9, 1},
                new int[][] {{0, 4}, {0, 239}, {0, 119}, {0, 47}, {0, 7}});
        wrong("ended", new Object[] {0}, new int[][] {{0, 4}});
        wrong("where", new Object[] {0}, new int[][] {{0, 100}});
        wrong("best", new Object[] {0, 9, 50}, new int[][] {{0, 4}, {0, 239}, {0, 119}});
        wrong("ends", new Object[] {0, 9, 50, 0}, new int[][] {{0, 4}, {0, 239}, {0, 119}, {0, 3}});
        wrong("ship", new Object[] {9, 9, 0, 0},
                new int[][] {{0, 239}, {0, 119}, {-20, 20}, {-20, 20}});
        wrong("near", new Object[] {0}, new int[][] {{0, 1}});
        wrong("stroke", new Object[] {9}, new int[][] {{0, 99}});
        wrong("stop", new Object[] {9, 1}, new int[][] {{0, 99}, {1, 10}});
        wrong("floor", new Object[] {1}, new int[][] {{1, 10}});
        wrong("turn", new Object[] {0}, new int[][] {{0, 4}});
    }

    private static void farOutChangesNothing() {
        Check.terms("A refused call changes nothing.");
        wrong("calm", new Object[] {0, true}, new int[][] {{0, 15}});
        wrong("calm", new Object[] {0, false}, new int[][] {{0, 15}});
        wrong("slot", new Object[] {0, 0, 1, 9}, new int[][] {{0, 4}, {0, 3}, {1, 4}, {0, 65535}});
        wrong("goes", new Object[] {0, 0}, new int[][] {{0, 15}, {0, 3}});
        wrong("count", new Object[] {0}, new int[][] {{0, 5}});
        wrong("keep", new Object[] {0, 1, 0}, new int[][] {{0, 7}, {0, 4}, {0, 4}});
        wrong("make", new Object[] {0, 3, 9}, new int[][] {{0, 7}, {3, 4}});
        wrong("element", new Object[] {0, 0}, new int[][] {{0, 7}});
        for (int d : new int[] {-1, 8, MIN, MAX}) {
            SOME.refuses(-1, "copy", d, 0, 3, 0, 1);
            SOME.refuses(-1, "copy", 2, 0, d, 0, 1);
        }
        wrong("weight", new Object[] {0}, new int[][] {{0, 7}});
        wrong("toss", new Object[] {0}, new int[][] {{0, 7}});
        for (int order : new int[] {0x1, 0x1234561, 0x121, 0x60F, MIN, MAX, -1, 0}) {
            SOME.refuses(-1, "order", order);
            FULL.refuses(-1, "order", order);
        }
    }

    /** Each number in turn just out of its range, and far out, the others as they should be. */
    private static void wrong(String name, Object[] right, int[][] ranges) {
        boolean throwing = name.equals("carries") || name.equals("element");
        for (int i = 0; i < ranges.length; i++) {
            for (int n : new int[] {ranges[i][0] - 1, ranges[i][1] + 1, MIN, MAX}) {
                Object[] args = right.clone();
                args[i] = n;
                SOME.refuses(throwing ? Check.THREW_ARGUMENT : -1, name, args);
            }
        }
    }
}
