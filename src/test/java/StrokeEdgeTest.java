import java.util.Arrays;

/** Edges of STROKES and THE STOP RULE: promises 18 to 21. */
public final class StrokeEdgeTest {
    public static void main(String[] args) {
        countNumbers();
        runNumbers();
        stopAtTheFirst();
        below();
        strokeAnswers();
        strokeRefused();
        strokesAreSixty();
        allCountsGo();
        stopPlaces();
        stopNot();
        stopRefused();
        leastFloor();
        noFloor();
        floorRefused();
        Check.finish();
    }

    private static int[] full(int n) {
        int[] counts = new int[60];
        Arrays.fill(counts, n);
        return counts;
    }

    private static void countNumbers() {
        Check.terms("STROKES: a row of counts (0 .. 99; 60 at most).");
        Edges.within(0, 99, 0, "stroke", 9);
        StraitSwim s = Made.counted(0, 99);
        s.keep(0, 4, 0);
        Check.due("0 as told", Check.element(s, 0, 0), 0);
        Check.due("99 as told", Check.element(s, 0, 1), 99);
        StraitSwim full = Made.counted(full(7));
        Check.due("60", full.count(3), 60);
        Check.due("no 61st", full.stroke(7), -2);
        Check.due("60 still", full.count(3), 60);
    }

    private static void runNumbers() {
        Check.terms("THE STOP RULE: a floor f and a run k (1 .. 10):");
        Edges.within(1, 10, 1, "stop", 9, 1);
        Edges.within(1, 10, 0, "floor", 1);
        StraitSwim s = Made.counted(full(5));
        Check.due("a run of 1", s.stop(6, 1), 0);
        Check.due("a run of 10", s.stop(6, 10), 9);
        Check.due("a run of 11 is none", s.stop(6, 11), -1);
        Check.due("a run of 0 is none", s.stop(6, 0), -1);
    }

    private static void stopAtTheFirst() {
        Check.terms("it says stop at the first count that ends k counts one behind the other");
        StraitSwim s = Made.counted(1, 9, 1, 1, 9, 1, 1, 1, 1);
        Check.due("k 1", s.stop(5, 1), 0);
        Check.due("k 2", s.stop(5, 2), 3);
        Check.due("k 3", s.stop(5, 3), 7);
        Check.due("k 4", s.stop(5, 4), 8);
        Check.due("k 5", s.stop(5, 5), -4);
        Check.due("all nine", s.stop(10, 9), 8);
        Check.due("one more than there are", s.stop(10, 10), -4);
    }

    private static void below() {
        Check.terms("counts one behind the other below f.");
        StraitSwim s = Made.counted(40);
        Check.due("40 is not below 39", s.stop(39, 1), -4);
        Check.due("40 is not below 40", s.stop(40, 1), -4);
        Check.due("40 is below 41", s.stop(41, 1), 0);
        StraitSwim zero = Made.counted(0);
        Check.due("0 is not below 0", zero.stop(0, 1), -4);
        Check.due("0 is below 1", zero.stop(1, 1), 0);
        Check.due("98 is below 99", Made.counted(98).stop(99, 1), 0);
        Check.due("99 is not below 99", Made.counted(99).stop(99, 1), -4);
    }

    private static void strokeAnswers() {
        Check.promise(18, "A count of STROKES: how many there are.");
        StraitSwim s = new StraitSwim();
        for (int i = 1; i <= 60; i++) {
            Check.due("count " + i, s.stroke(99), i);
        }
    }

    private static void strokeRefused() {
        Check.promise(18, "-1;");
        for (History h : History.values()) {
            h.refuses(-1, "stroke", -1);
            h.refuses(-1, "stroke", 100);
        }
    }

    private static void strokesAreSixty() {
        Check.promise(18, "-2: there are 60.");
        StraitSwim s = Made.counted(Arrays.copyOf(full(3), 59));
        Check.due("59 are there", s.count(3), 59);
        Check.due("the 60th", s.stroke(0), 60);
        Check.due("the 61st", s.stroke(0), -2);
        History.FULL.refuses(-2, "stroke", 0);
        History.FULL.refuses(-2, "stroke", 99);
        s.strokes();
        Check.due("room again", s.stroke(0), 1);
    }

    private static void allCountsGo() {
        Check.promise(19, "All counts go: how many.");
        Check.due("none at first", new StraitSwim().strokes(), 0);
        StraitSwim s = Made.counted(full(1));
        Check.due("all 60", s.strokes(), 60);
        Check.due("none then", s.strokes(), 0);
        Check.due("counts", s.count(3), 0);
        Check.due("no stop by those that went", s.stop(99, 1), -4);
        Check.due("no floor either", s.floor(1), -4);
        s.keep(0, 4, 0);
        Check.due("a ROW without any", Check.element(s, 0, 0), Check.THREW_STATE);
        s.stroke(2);
        Check.due("a run begins anew", s.stop(99, 2), -4);
        Check.due("the next is at 0", s.stop(99, 1), 0);
        Check.due("one", s.strokes(), 1);
    }

    private static void stopPlaces() {
        Check.promise(20, "THE STOP RULE: the place of the count at which it says stop (from 0);");
        Edges.within(0, 99, 0, "stop", 9, 1);
        int[] counts = full(99);
        counts[59] = 1;
        Check.due("at the last place", Made.counted(counts).stop(99, 1), 59);
        counts[58] = 1;
        Check.due("a run that ends at the last place", Made.counted(counts).stop(99, 2), 59);
        counts[0] = 1;
        Check.due("at the first place", Made.counted(counts).stop(99, 1), 0);
        for (int i = 50; i < 60; i++) {
            counts[i] = 1;
        }
        Check.due("ten at the end", Made.counted(counts).stop(2, 10), 59);
        counts[50] = 2;
        Check.due("nine at the end", Made.counted(counts).stop(2, 10), -4);
    }

    private static void stopNot() {
        Check.promise(20, "-4: it doesn't.");
        Check.due("no counts", new StraitSwim().stop(99, 1), -4);
        Check.due("all are 99", Made.counted(full(99)).stop(99, 1), -4);
        Check.due("nothing is below 0", Made.counted(full(0)).stop(0, 1), -4);
        Check.due("one too few", Made.counted(1, 1, 1).stop(2, 4), -4);
        History.SOME.onlyAnswers("stop", 99, 1);
        History.SOME.onlyAnswers("stop", 0, 10);
    }

    private static void stopRefused() {
        Check.promise(20, "-1 (f 0 .. 99).");
        for (History h : History.values()) {
            h.refuses(-1, "stop", -1, 1);
            h.refuses(-1, "stop", 100, 1);
            h.refuses(-1, "stop", 9, 0);
            h.refuses(-1, "stop", 9, 11);
        }
    }

    private static void leastFloor() {
        Check.promise(21, "The least floor by which the rule with a run k says stop;");
        Check.due("a count of 0", Made.counted(0).floor(1), 1);
        Check.due("a count of 98", Made.counted(98).floor(1), 99);
        StraitSwim s = Made.counted(9, 3, 5, 4, 8);
        int[] due = {4, 6, 6, 9, 10};
        for (int k = 1; k <= 5; k++) {
            int f = s.floor(k);
            Check.due("floor(" + k + ")", f, due[k - 1]);
            Check.holds("it says stop by it", s.stop(f, k) >= 0);
            Check.due("and not by one less", s.stop(f - 1, k), -4);
        }
        Check.due("a run that ends at the last place", Made.counted(99, 99, 1, 2).floor(2), 3);
        Check.due("ten of sixty", Made.counted(full(42)).floor(10), 43);
    }

    private static void noFloor() {
        Check.promise(21, "-4: none up to 99.");
        Check.due("no counts", new StraitSwim().floor(1), -4);
        Check.due("a count of 99", Made.counted(99).floor(1), -4);
        Check.due("a 99 between", Made.counted(1, 99, 1).floor(2), -4);
        Check.due("nine of ten", Made.counted(1, 1, 1, 1, 1, 1, 1, 1, 1).floor(10), -4);
        Check.due("ten of ten", Made.counted(1, 1, 1, 1, 1, 1, 1, 1, 1, 1).floor(10), 2);
        History.SOME.onlyAnswers("floor", 10);
    }

    private static void floorRefused() {
        Check.promise(21, "-1.");
        for (History h : History.values()) {
            h.refuses(-1, "floor", 0);
            h.refuses(-1, "floor", 11);
            h.refuses(-1, "floor", Integer.MIN_VALUE);
            h.refuses(-1, "floor", Integer.MAX_VALUE);
        }
    }
}
