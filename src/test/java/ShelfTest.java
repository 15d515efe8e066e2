/** Promises 30 to 35: SHELVES, their ROWS and SWIMMERS. */
public final class ShelfTest {
    private static final long NO_SHELF = Check.THREW_ARGUMENT;
    private static final long NO_ELEMENT = Check.THREW_STATE;

    public static void main(String[] args) {
        promise30();
        swimOfPromise30();
        promise31();
        promise32();
        promise33();
        overlapsOfPromise33();
        promise34();
        promise35();
        Check.finish();
    }

    private static void promise30() {
        StraitSwim s = Made.withKinds(20, 400);
        Check.due("SHELF -1", s.keep(-1, 0, 0), -1);
        Check.due("SHELF 8", s.keep(8, 0, 0), -1);
        Check.due("what -1", s.keep(0, -1, 0), -1);
        Check.due("what 2", s.keep(0, 2, 0), -1);
        Check.due("what 5", s.keep(0, 5, 0), -1);
        Check.due("SWIMMER -1", s.keep(0, 1, -1), -1);
        Check.due("SWIMMER 4", s.keep(0, 1, 4), -1);
        Check.due("still nothing", s.weight(0), -11);
        Check.due("a SWIMMER", s.keep(7, 1, 0), 0);
        s.feed(0, 40);
        Check.due("as it was then", s.weight(7), 30);
        Check.due("a refused one", s.keep(7, 1, 4), -1);
        Check.due("leaves what is held", s.weight(7), 30);
        Check.due("again", s.keep(7, 1, 0), 0);
        Check.due("as it is now", s.weight(7), 70);
        Check.due("nothing", s.keep(7, 0, -9), 0);
        Check.due("nothing is held", s.weight(7), -11);
        Check.due("no counts, any k", s.keep(1, 4, -9), 0);
        Check.due("of length 0", Check.element(s, 1, 0), NO_ELEMENT);
        s.stroke(99);
        s.stroke(0);
        s.stroke(7);
        s.keep(1, 4, 0);
        s.strokes();
        Check.due("the counts as they were", Check.element(s, 1, 0), 99);
        Check.due("the last count", Check.element(s, 1, 2), 7);
        Check.due("no more", Check.element(s, 1, 3), NO_ELEMENT);
    }

    private static void swimOfPromise30() {
        StraitSwim s = Made.withKinds(20, 400);
        Check.due("no SWIM", s.keep(0, 3, 0), 0);
        Check.due("of length 0", Check.element(s, 0, 0), NO_ELEMENT);
        Check.due("is a ROW all the same", s.weight(0), -12);
        s.swim(0, 190, 50, 0, 0);
        s.keep(0, 3, 77);
        s.swim(0, 3, 4, 0, 4);
        long[] due = {190, 50, 210, 50, 230, 50, 230, 50};
        for (int i = 0; i < due.length; i++) {
            Check.due("x, y " + i, Check.element(s, 0, i), due[i]);
        }
        Check.due("no more", Check.element(s, 0, due.length), NO_ELEMENT);
        s.best(0, 100, 50);
        s.keep(0, 3, 0);
        Check.due("of the latest", Check.element(s, 0, 0), 3);
        Check.due("one quarter alone", Check.element(s, 0, 4), NO_ELEMENT);
        StraitSwim slow = new StraitSwim();
        slow.swimmer(0, 1, 400);
        slow.set(0, 0);
        slow.feed(0, 1);
        slow.swim(0, 9, 8, 0, 0);
        slow.keep(0, 3, 0);
        Check.due("a SWIM of 100 quarters", Check.element(slow, 0, 201), 8);
        Check.due("and no more", Check.element(slow, 0, 202), NO_ELEMENT);
    }

    private static void promise31() {
        StraitSwim s = Made.withKinds(20, 400);
        Check.due("60 shorts", s.make(0, 3, 60), 0);
        Check.due("all 0", Check.element(s, 0, 59), 0);
        Check.due("none beyond", Check.element(s, 0, 60), NO_ELEMENT);
        Check.due("no bytes", s.make(1, 4, 0), 0);
        Check.due("none there", Check.element(s, 1, 0), NO_ELEMENT);
        Check.due("61", s.make(0, 3, 61), -1);
        Check.due("-1", s.make(0, 3, -1), -14);
        Check.due("far below 0", s.make(0, 4, Integer.MIN_VALUE), -14);
        Check.due("SHELF 8", s.make(8, 3, -1), -1);
        Check.due("SHELF -1", s.make(-1, 3, 1), -1);
        Check.due("what 2", s.make(0, 2, -1), -1);
        Check.due("what 5", s.make(0, 5, 1), -1);
        Check.due("still 60", Check.element(s, 0, 59), 0);
        s.keep(2, 1, 0);
        s.make(2, 4, 1);
        Check.due("over a SWIMMER", s.weight(2), -12);
    }

    private static void promise32() {
        StraitSwim s = Made.withKinds(20, 400);
        Check.due("SHELF -1", Check.element(s, -1, 0), NO_SHELF);
        Check.due("SHELF 8", Check.element(s, 8, 0), NO_SHELF);
        Check.due("nothing is held", Check.element(s, 0, 0), NO_ELEMENT);
        s.keep(0, 1, 0);
        Check.due("no ROW", Check.element(s, 0, 0), NO_ELEMENT);
        s.stroke(42);
        s.keep(0, 4, 0);
        Check.due("element 0", Check.element(s, 0, 0), 42);
        Check.due("element -1", Check.element(s, 0, -1), NO_ELEMENT);
        Check.due("element 1", Check.element(s, 0, 1), NO_ELEMENT);
        Check.due("far out", Check.element(s, 0, Integer.MAX_VALUE), NO_ELEMENT);
    }

    private static void promise33() {
        StraitSwim s = Made.withKinds(20, 400);
        s.make(0, 4, 3);
        s.make(1, 3, 3);
        s.keep(2, 1, 0);
        s.stroke(5);
        s.stroke(6);
        s.keep(3, 4, 0);
        Check.due("SHELF -1", s.copy(-1, 0, 0, 0, 0), -1);
        Check.due("SHELF 8", s.copy(0, 0, 8, 0, 0), -1);
        Check.due("nothing on d", s.copy(7, 0, 0, 0, 0), -11);
        Check.due("nothing on e", s.copy(0, 0, 7, 0, 0), -11);
        Check.due("nothing on e, no ROW on d", s.copy(2, 0, 7, 0, 0), -11);
        Check.due("no ROW on d", s.copy(2, 0, 0, 0, 0), -12);
        Check.due("no ROW on e", s.copy(0, 0, 2, 0, 0), -12);
        Check.due("two SWIMMERS", s.copy(2, 0, 2, 0, 0), -12);
        Check.due("of two kinds", s.copy(0, 0, 1, 0, -1), -12);
        int[][] beyond = {{0, 0, -1}, {-1, 0, 1}, {0, -1, 1}, {0, 0, 3}, {1, 0, 2}, {0, 2, 2},
            {3, 0, 0}, {0, 4, 0}, {Integer.MAX_VALUE, 0, Integer.MAX_VALUE},
            {0, Integer.MAX_VALUE, 1}, {1, 1, Integer.MAX_VALUE}, {Integer.MIN_VALUE, 0, 0}};
        for (int[] b : beyond) {
            Check.due("beyond an end " + b[0] + " " + b[1] + " " + b[2],
                    s.copy(3, b[0], 0, b[1], b[2]), -13);
        }
        for (int i = 0; i < 3; i++) {
            Check.due("as before", Check.element(s, 0, i), 0);
        }
        Check.due("none, at both ends", s.copy(3, 2, 0, 3, 0), 0);
        Check.due("two", s.copy(3, 0, 0, 1, 2), 2);
        Check.due("place 0 as it was", Check.element(s, 0, 0), 0);
        Check.due("place 1", Check.element(s, 0, 1), 5);
        Check.due("place 2", Check.element(s, 0, 2), 6);
    }

    private static void overlapsOfPromise33() {
        StraitSwim s = new StraitSwim();
        for (int n = 1; n <= 5; n++) {
            s.stroke(n);
        }
        s.keep(0, 4, 0);
        s.keep(1, 4, 0);
        Check.due("up", s.copy(0, 0, 0, 1, 4), 4);
        Check.due("down", s.copy(1, 1, 1, 0, 4), 4);
        long[] up = {1, 1, 2, 3, 4};
        long[] down = {2, 3, 4, 5, 5};
        for (int i = 0; i < 5; i++) {
            Check.due("up " + i, Check.element(s, 0, i), up[i]);
            Check.due("down " + i, Check.element(s, 1, i), down[i]);
        }
    }

    private static void promise34() {
        StraitSwim s = Made.withKinds(20, 400);
        for (int i = 0; i < 4; i++) {
            s.feed(i, 7);
            s.keep(i, 1, i);
        }
        long[] due = {37, 137, 437, 274};
        for (int i = 0; i < 4; i++) {
            Check.due("WEIGHT of KIND " + i, s.weight(i), due[i]);
        }
        s.make(4, 3, 1);
        Check.due("of a ROW", s.weight(4), -12);
        Check.due("of nothing", s.weight(5), -11);
        Check.due("SHELF -1", s.weight(-1), -1);
        Check.due("SHELF 8", s.weight(8), -1);
    }

    private static void promise35() {
        StraitSwim s = Made.withKinds(20, 400);
        for (int i = 0; i < 4; i++) {
            s.keep(i, 1, i);
        }
        Check.due("of a PLAIN one", s.toss(0), -15);
        for (int i = 1; i < 4; i++) {
            Check.due("of SWIMMER " + i, s.toss(i), i);
            Check.due("once more", s.toss(i), i);
        }
        s.make(4, 4, 1);
        Check.due("of a ROW", s.toss(4), -12);
        Check.due("of nothing", s.toss(5), -11);
        Check.due("SHELF -1", s.toss(-1), -1);
        Check.due("SHELF 8", s.toss(8), -1);
        numbersOfPromise35();
    }

    /** Each KIND with numbers that are neither its own, nor those of the SHELVES. */
    private static void numbersOfPromise35() {
        int[] kinds = {3, 2, 1, 0, 2, 1, 3, 3, 2, 1};
        StraitSwim s = new StraitSwim();
        for (int kind : kinds) {
            s.swimmer(kind, 7, 30);
        }
        for (int number = 0; number < kinds.length; number++) {
            int shelf = (number + 5) % 8;
            s.keep(shelf, 1, number);
            Check.due("SWIMMER " + number + " of KIND " + kinds[number], s.toss(shelf),
                    kinds[number] == 0 ? -15 : number);
        }
        s.feed(9, 3);
        s.swim(0, 5, 5, 0, 0);
        Check.due("still its own number", s.toss(6), 9);
        s.keep(6, 1, 9);
        Check.due("kept anew", s.toss(6), 9);
        s.keep(6, 1, 0);
        Check.due("the one that came first", s.toss(6), 0);
    }
}
