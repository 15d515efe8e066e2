/** Edges of SHELVES, their ROWS and SWIMMERS: promises 30 to 35. */
public final class ShelfEdgeTest {
    private static final long NO_SHELF = Check.THREW_ARGUMENT;
    private static final long NO_ELEMENT = Check.THREW_STATE;

    public static void main(String[] args) {
        shelfNumbers();
        nothingAtFirst();
        refusals();
        keepNothing();
        keepSwimmer();
        keepSwim();
        keepCounts();
        keepRefused();
        makeRows();
        makeRefused();
        makeBelowZero();
        elementPlaces();
        elementNoShelf();
        elementNone();
        copyAll();
        copyOntoItself();
        copyNoShelf();
        copyOfNothing();
        copyOfOtherKinds();
        copyBeyond();
        weights();
        weightRefused();
        tosses();
        tossRefused();
        tossOfPlain();
        Check.finish();
    }

    /** As many counts, each its place and 1. */
    private static StraitSwim countedUp(int many) {
        StraitSwim s = new StraitSwim();
        for (int n = 0; n < many; n++) {
            s.stroke(n + 1);
        }
        return s;
    }

    private static void shelfNumbers() {
        Check.terms("SHELVES 0 .. 7 each hold");
        Edges.within(0, 7, 0, "keep", 0, 0, 0);
        Edges.within(0, 7, 0, "make", 0, 3, 1);
        Edges.within(0, 7, 0, "element", 2, 0);
        Edges.within(0, 7, 0, "copy", 2, 0, 3, 0, 1);
        Edges.within(0, 7, 2, "copy", 2, 0, 3, 0, 1);
        Edges.within(0, 7, 0, "weight", 0);
        Edges.within(0, 7, 0, "toss", 4);
        StraitSwim s = new StraitSwim();
        for (int d = 0; d < 8; d++) {
            s.make(d, 3, d);
        }
        for (int d = 0; d < 8; d++) {
            Check.due("its last", Check.element(s, d, d - 1), d == 0 ? NO_ELEMENT : 0);
            Check.due("behind its last", Check.element(s, d, d), NO_ELEMENT);
        }
    }

    private static void nothingAtFirst() {
        Check.terms("each hold nothing (at first), a SWIMMER, a ROW of shorts or bytes.");
        StraitSwim s = Made.withKinds(1, 1);
        for (int d = 0; d < 8; d++) {
            Check.due("nothing is weighed on " + d, s.weight(d), -11);
            Check.due("nothing is tossed on " + d, s.toss(d), -11);
            Check.due("nothing is copied on " + d, s.copy(d, 0, d, 0, 0), -11);
            Check.due("no element on " + d, Check.element(s, d, 0), NO_ELEMENT);
        }
        s.keep(0, 1, 0);
        Check.due("a SWIMMER", s.weight(0), 11);
        s.make(0, 3, 1);
        Check.due("a ROW in its stead", s.weight(0), -12);
        s.keep(0, 1, 0);
        Check.due("a SWIMMER again", Check.element(s, 0, 0), NO_ELEMENT);
        Check.due("the others hold nothing still", s.weight(1), -11);
    }

    private static void refusals() {
        Check.terms("Their REFUSALS: -11 nothing is held where something is wanted;"
                + " -12 it is of another kind; -13 a place that it doesn't have;"
                + " -14 a size below 0; -15 a FAILURE that is none.");
        History.SOME.refuses(-11, "weight", 7);
        History.SOME.refuses(-12, "weight", 2);
        History.SOME.refuses(-13, "copy", 2, 3, 3, 0, 1);
        History.SOME.refuses(-14, "make", 0, 3, -1);
        History.SOME.refuses(-15, "toss", 0);
    }

    private static void keepNothing() {
        Check.promise(30, "SHELF d gets: what = 0 nothing;");
        StraitSwim s = Made.withKinds(1, 1);
        for (int d = 0; d < 8; d++) {
            Check.due("nothing where there is nothing", s.keep(d, 0, 0), 0);
            s.keep(d, 1, 0);
            Check.due("a SWIMMER goes", s.keep(d, 0, 0), 0);
            Check.due("nothing", s.weight(d), -11);
            s.make(d, 4, 60);
            Check.due("a ROW goes", s.keep(d, 0, 0), 0);
            Check.due("nothing again", s.weight(d), -11);
        }
    }

    private static void keepSwimmer() {
        Check.promise(30, "1 SWIMMER k (as it is then);");
        Edges.within(0, 4, 2, "keep", 0, 1, 0);
        StraitSwim s = Made.withKinds(20, 400);
        s.feed(2, 40);
        Check.due("kept", s.keep(7, 1, 2), 0);
        s.feed(2, 0);
        Check.due("with FEED 40", s.weight(7), 470);
        s.keep(6, 1, 2);
        Check.due("with FEED 0", s.weight(6), 430);
        Check.due("the other as it was", s.weight(7), 470);
        s.keep(6, 0, 0);
        Check.due("the SWIMMER itself is still there", s.feed(2, 1), 0);
    }

    private static void keepSwim() {
        Check.promise(30, "3 a ROW of shorts: x, y of the latest SWIM, quarter by quarter"
                + " (none: of length 0);");
        StraitSwim s = new StraitSwim();
        Check.due("none", s.keep(0, 3, 0), 0);
        Check.due("of length 0", Check.element(s, 0, 0), NO_ELEMENT);
        Check.due("and a ROW", s.copy(0, 0, 0, 0, 0), 0);
        s.make(1, 3, 0);
        Check.due("of shorts", s.copy(0, 0, 1, 0, 0), 0);
        s.swimmer(0, 9, 1);
        s.swim(0, 230, 119, 0, 0);
        s.keep(1, 3, 0);
        Check.due("none, as it was kept", Check.element(s, 0, 0), NO_ELEMENT);
        long[] due = {230, 119, 239, 119};
        for (int i = 0; i < due.length; i++) {
            Check.due("one quarter, element " + i, Check.element(s, 1, i), due[i]);
        }
        Check.due("behind it", Check.element(s, 1, due.length), NO_ELEMENT);
        s.set(0, 0);
        int slow = s.swimmer(0, 1, 400);
        s.feed(slow, 1);
        s.swim(slow, 239, 119, 0, 0);
        s.keep(2, 3, 0);
        Check.due("100 quarters, x at last", Check.element(s, 2, 200), 239);
        Check.due("100 quarters, y at last", Check.element(s, 2, 201), 119);
        Check.due("behind them", Check.element(s, 2, 202), NO_ELEMENT);
        Check.due("a refused SWIM is none", s.swim(slow, 240, 0, 0, 0), -1);
        s.keep(3, 3, 0);
        Check.due("the latest", Check.element(s, 3, 0), 239);
    }

    private static void keepCounts() {
        Check.promise(30, "4 a ROW of bytes: the counts: 0.");
        StraitSwim s = new StraitSwim();
        Check.due("no counts", s.keep(0, 4, 0), 0);
        Check.due("of length 0", Check.element(s, 0, 0), NO_ELEMENT);
        s.make(1, 4, 0);
        Check.due("a ROW of bytes", s.copy(0, 0, 1, 0, 0), 0);
        StraitSwim full = countedUp(60);
        full.keep(7, 4, 0);
        for (int i = 0; i < 60; i++) {
            Check.due("count " + i, Check.element(full, 7, i), i + 1);
        }
        Check.due("behind them", Check.element(full, 7, 60), NO_ELEMENT);
        full.strokes();
        Check.due("as they were then", Check.element(full, 7, 59), 60);
        full.stroke(0);
        full.stroke(99);
        full.keep(6, 4, 0);
        Check.due("the least", Check.element(full, 6, 0), 0);
        Check.due("the greatest", Check.element(full, 6, 1), 99);
        Check.due("no more", Check.element(full, 6, 2), NO_ELEMENT);
    }

    private static void keepRefused() {
        Check.promise(30, "-1.");
        for (History h : History.values()) {
            for (int d : new int[] {-1, 8}) {
                for (int what : new int[] {0, 1, 3, 4}) {
                    h.refuses(-1, "keep", d, what, 0);
                }
            }
            for (int what : new int[] {-1, 2, 5, Integer.MIN_VALUE, Integer.MAX_VALUE}) {
                h.refuses(-1, "keep", 0, what, 0);
            }
            h.refuses(-1, "keep", 0, 1, -1);
            h.refuses(-1, "keep", 2, 1, 10);
        }
        History.NEW.refuses(-1, "keep", 0, 1, 0);
        History.SOME.refuses(-1, "keep", 1, 1, 5);
    }

    private static void makeRows() {
        Check.promise(31, "SHELF d gets a ROW of n shorts, or bytes, 0"
                + " (what 3, 4; n up to 60): 0.");
        Edges.within(3, 4, 1, "make", 0, 3, 1);
        for (int what = 3; what <= 4; what++) {
            StraitSwim s = countedUp(60);
            s.keep(0, 4, 0);
            Check.due("60", s.make(0, what, 60), 0);
            for (int i = 0; i < 60; i++) {
                Check.due("all 0", Check.element(s, 0, i), 0);
            }
            Check.due("behind them", Check.element(s, 0, 60), NO_ELEMENT);
            Check.due("0", s.make(0, what, 0), 0);
            Check.due("none", Check.element(s, 0, 0), NO_ELEMENT);
            Check.due("but a ROW", s.weight(0), -12);
            Check.due("1", s.make(7, what, 1), 0);
            Check.due("one", Check.element(s, 7, 0), 0);
            Check.due("no second", Check.element(s, 7, 1), NO_ELEMENT);
            Check.due("of that kind", s.copy(0, 0, 7, 0, 0), 0);
            s.make(1, 7 - what, 1);
            Check.due("not of the other", s.copy(1, 0, 7, 0, 1), -12);
        }
    }

    private static void makeRefused() {
        Check.promise(31, "-1;");
        for (History h : History.values()) {
            for (int what = 3; what <= 4; what++) {
                h.refuses(-1, "make", 0, what, 61);
                h.refuses(-1, "make", 0, what, Integer.MAX_VALUE);
                h.refuses(-1, "make", -1, what, 1);
                h.refuses(-1, "make", 8, what, 1);
            }
            for (int what : new int[] {-1, 0, 1, 2, 5}) {
                h.refuses(-1, "make", 2, what, 1);
            }
        }
    }

    private static void makeBelowZero() {
        Check.promise(31, "-14: n is below 0.");
        for (History h : History.values()) {
            for (int what = 3; what <= 4; what++) {
                h.refuses(-14, "make", 2, what, -1);
                h.refuses(-14, "make", 7, what, Integer.MIN_VALUE);
            }
        }
    }

    private static void elementPlaces() {
        Check.promise(32, "Element i, from 0, of the ROW on SHELF d.");
        StraitSwim s = countedUp(60);
        s.keep(0, 4, 0);
        Check.due("the first", Check.element(s, 0, 0), 1);
        Check.due("the last", Check.element(s, 0, 59), 60);
        History.SOME.onlyAnswers("element", 2, 0);
        History.SOME.onlyAnswers("element", 1, 1);
    }

    private static void elementNoShelf() {
        Check.promise(32, "IllegalArgumentException: no such SHELF;");
        for (History h : History.values()) {
            for (int d : new int[] {-1, 8, Integer.MIN_VALUE, Integer.MAX_VALUE}) {
                h.refuses(NO_SHELF, "element", d, 0);
                h.refuses(NO_SHELF, "element", d, -1);
            }
        }
    }

    private static void elementNone() {
        Check.promise(32, "IllegalStateException: nothing is held, it is no ROW,"
                + " or has no such place.");
        for (int i : new int[] {0, -1, Integer.MIN_VALUE, Integer.MAX_VALUE}) {
            History.NEW.refuses(NO_ELEMENT, "element", 0, i);
            History.SOME.refuses(NO_ELEMENT, "element", 7, i);
            History.SOME.refuses(NO_ELEMENT, "element", 0, i);
        }
        for (int i : new int[] {-1, 3, Integer.MIN_VALUE, Integer.MAX_VALUE}) {
            History.SOME.refuses(NO_ELEMENT, "element", 2, i);
            History.SOME.refuses(NO_ELEMENT, "element", 3, i);
        }
        for (int i : new int[] {-1, 60, Integer.MIN_VALUE, Integer.MAX_VALUE}) {
            History.FULL.refuses(NO_ELEMENT, "element", 2, i);
        }
    }

    private static void copyAll() {
        Check.promise(33, "n elements of the ROW on SHELF d, from place i, come to the ROW on SHELF"
                + " e, from place j");
        StraitSwim s = countedUp(60);
        s.keep(0, 4, 0);
        s.make(1, 4, 60);
        Check.due("none", s.copy(0, 0, 1, 0, 0), 0);
        Check.due("none came", Check.element(s, 1, 0), 0);
        Check.due("the last to the first", s.copy(0, 59, 1, 0, 1), 1);
        Check.due("it came", Check.element(s, 1, 0), 60);
        Check.due("behind it none", Check.element(s, 1, 1), 0);
        Check.due("the first to the last", s.copy(0, 0, 1, 59, 1), 1);
        Check.due("it came too", Check.element(s, 1, 59), 1);
        Check.due("ahead of it none", Check.element(s, 1, 58), 0);
        Check.due("all but one, one on", s.copy(0, 0, 1, 1, 59), 59);
        Check.due("the first is left", Check.element(s, 1, 0), 60);
        Check.due("the last", Check.element(s, 1, 59), 59);
        Check.due("all", s.copy(0, 0, 1, 0, 60), 60);
        for (int i = 0; i < 60; i++) {
            Check.due("of all, " + i, Check.element(s, 1, i), i + 1);
            Check.due("as it was, " + i, Check.element(s, 0, i), i + 1);
        }
    }

    private static void copyOntoItself() {
        Check.promise(33, "(as they all were before): n.");
        int[][] moves = {{0, 1, 4}, {1, 0, 4}, {0, 2, 3}, {2, 0, 3}, {0, 0, 5}, {0, 4, 1},
            {4, 0, 1}, {0, 5, 0}, {5, 0, 0}};
        for (int[] m : moves) {
            StraitSwim s = countedUp(5);
            s.keep(0, 4, 0);
            Check.due("n", s.copy(0, m[0], 0, m[1], m[2]), m[2]);
            for (int i = 0; i < 5; i++) {
                boolean came = i >= m[1] && i < m[1] + m[2];
                Check.due(m[2] + " from " + m[0] + " to " + m[1] + ": " + i,
                        Check.element(s, 0, i), came ? i - m[1] + m[0] + 1 : i + 1);
            }
        }
    }

    private static void copyNoShelf() {
        Check.promise(33, "-1;");
        for (History h : History.values()) {
            h.refuses(-1, "copy", -1, 0, 3, 0, 1);
            h.refuses(-1, "copy", 8, 0, 3, 0, 1);
            h.refuses(-1, "copy", 2, 0, -1, 0, 1);
            h.refuses(-1, "copy", 2, 0, 8, 0, 1);
        }
    }

    private static void copyOfNothing() {
        Check.promise(33, "-11: of either;");
        History.NEW.refuses(-11, "copy", 0, 0, 1, 0, 0);
        History.SOME.refuses(-11, "copy", 7, 0, 3, 0, 0);
        History.SOME.refuses(-11, "copy", 2, 0, 7, 0, 0);
        History.SOME.refuses(-11, "copy", 7, 0, 7, 0, 0);
        History.SOME.refuses(-11, "copy", 6, 0, 7, 0, 0);
    }

    private static void copyOfOtherKinds() {
        Check.promise(33, "-12: one is no ROW, or they are not of one kind;");
        History.SOME.refuses(-12, "copy", 0, 0, 3, 0, 0);
        History.SOME.refuses(-12, "copy", 2, 0, 0, 0, 0);
        History.SOME.refuses(-12, "copy", 0, 0, 4, 0, 0);
        History.SOME.refuses(-12, "copy", 0, 0, 0, 0, 0);
        History.SOME.refuses(-12, "copy", 1, 0, 2, 0, 1);
        History.SOME.refuses(-12, "copy", 2, 0, 1, 0, 1);
        History.SOME.refuses(-12, "copy", 2, 0, 5, 0, 0);
        Check.due("bytes to bytes", History.SOME.made().copy(2, 0, 3, 0, 3), 3);
        Check.due("shorts to shorts", History.SOME.made().copy(1, 0, 5, 0, 4), 4);
    }

    /** SHELF 2 has 3 bytes, SHELF 6 gets 5: the last that fits, and one more, at each end. */
    private static void copyBeyond() {
        Check.promise(33, "-13: n, i or j is below 0, or beyond either's end.");
        int[][] fits = {{0, 0, 3}, {0, 2, 3}, {3, 0, 0}, {0, 5, 0}, {3, 5, 0}, {2, 4, 1}};
        for (int[] f : fits) {
            StraitSwim s = History.SOME.made();
            s.make(6, 4, 5);
            Check.due("i, j, n " + f[0] + ", " + f[1] + ", " + f[2],
                    s.copy(2, f[0], 6, f[1], f[2]), f[2]);
        }
        int max = Integer.MAX_VALUE;
        int min = Integer.MIN_VALUE;
        int[][] beyond = {{0, 0, 4}, {0, 0, 5}, {1, 0, 3}, {3, 0, 1}, {4, 0, 0}, {0, 3, 3},
            {0, 5, 1}, {0, 6, 0}, {-1, 0, 1}, {0, -1, 1}, {0, 0, -1}, {-1, 0, 0}, {0, -1, 0},
            {max, 0, 0}, {0, max, 0}, {0, 0, max}, {max, 0, max}, {0, max, max}, {max, max, max},
            {1, 0, max}, {0, 1, max}, {1, 1, max}, {min, 0, 0}, {0, min, 0}, {0, 0, min},
            {max, max, min},
            {min, min, max}};
        for (int[] b : beyond) {
            StraitSwim s = History.SOME.made();
            s.make(6, 4, 5);
            Check.due("i, j, n " + b[0] + ", " + b[1] + ", " + b[2],
                    s.copy(2, b[0], 6, b[1], b[2]), -13);
            for (int i = 0; i < 5; i++) {
                Check.due("nothing came", Check.element(s, 6, i), 0);
            }
            s.copy(6, b[1], 2, b[0], b[2]);
            Check.due("nor the other way", Check.element(s, 2, 0), 90);
            History.SOME.refuses(-13, "copy", 2, b[0], 2, 4, b[2]);
        }
    }

    private static void weights() {
        Check.promise(34, "The WEIGHT of the SWIMMER on SHELF d: 10, SPEED and FEED; of GREASED,"
                + " SEASONED ones 100 more; of SEASONED ones twice all that; of QUICK ones LIMIT"
                + " more.");
        int[][] least = {{11, 111, 12, 222}, {51, 151, 52, 302}};
        int[][] most = {{30, 130, 430, 260}, {70, 170, 470, 340}};
        for (int kind = 0; kind < 4; kind++) {
            for (int fed = 0; fed < 2; fed++) {
                StraitSwim small = Made.withKinds(1, 1);
                small.feed(kind, 40 * fed);
                small.keep(kind, 1, kind);
                Check.due("the least of KIND " + kind, small.weight(kind), least[fed][kind]);
                StraitSwim great = Made.withKinds(20, 400);
                great.feed(kind, 40 * fed);
                great.keep(7 - kind, 1, kind);
                Check.due("the most of KIND " + kind, great.weight(7 - kind), most[fed][kind]);
            }
        }
        History.SOME.onlyAnswers("weight", 4);
    }

    private static void weightRefused() {
        Check.promise(34, "-1, -11, -12.");
        for (History h : History.values()) {
            h.refuses(-1, "weight", -1);
            h.refuses(-1, "weight", 8);
            h.refuses(-11, "weight", 7);
        }
        History.SOME.refuses(-12, "weight", 1);
        History.SOME.refuses(-12, "weight", 2);
        History.SOME.refuses(-12, "weight", 3);
    }

    private static void tosses() {
        Check.promise(35, "The FAILURE of the SWIMMER on SHELF d is thrown, and caught:"
                + " its number.");
        StraitSwim s = new StraitSwim();
        for (int k = 0; k < 10; k++) {
            s.swimmer(k % 3 + 1, 1, 1);
        }
        for (int k = 0; k < 10; k++) {
            s.keep((k + 3) % 8, 1, k);
            Check.due("SWIMMER " + k, s.toss((k + 3) % 8), k);
        }
        Check.due("it is held still", s.toss(4), 9);
        History.SOME.onlyAnswers("toss", 4);
    }

    private static void tossRefused() {
        Check.promise(35, "-1, -11, -12;");
        for (History h : History.values()) {
            h.refuses(-1, "toss", -1);
            h.refuses(-1, "toss", 8);
            h.refuses(-11, "toss", 7);
        }
        History.SOME.refuses(-12, "toss", 1);
        History.SOME.refuses(-12, "toss", 2);
        History.SOME.refuses(-12, "toss", 3);
    }

    private static void tossOfPlain() {
        Check.promise(35, "-15: PLAIN ones have none.");
        StraitSwim s = Made.withKinds(1, 1);
        s.swimmer(0, 20, 400);
        int[] due = {-15, 1, 2, 3, -15};
        for (int k = 0; k < 5; k++) {
            s.keep(0, 1, k);
            Check.due("SWIMMER " + k, s.toss(0), due[k]);
        }
        History.SOME.refuses(-15, "toss", 0);
        History.FULL.refuses(-15, "toss", 0);
    }
}
