/** Promises 18 to 24: STROKES, THE STOP RULE and RELAYS. */
public final class StrokeTest {
    public static void main(String[] args) {
        promise18();
        promise19();
        promise20();
        promise21();
        promise22();
        promise23();
        promise24();
        Check.finish();
    }

    private static void promise18() {
        StraitSwim s = new StraitSwim();
        Check.due("count -1", s.stroke(-1), -1);
        Check.due("count 100", s.stroke(100), -1);
        for (int i = 1; i <= 60; i++) {
            Check.due("count " + i, s.stroke(i % 2 == 0 ? 0 : 99), i);
        }
        Check.due("a 61st", s.stroke(1), -2);
        Check.due("a 61st out of range", s.stroke(100), -1);
        Check.due("counts", s.count(3), 60);
    }

    private static void promise19() {
        StraitSwim s = Made.counted(1, 2, 3);
        Check.due("all go", s.strokes(), 3);
        Check.due("none are there", s.strokes(), 0);
        Check.due("counts", s.count(3), 0);
        Check.due("the next is the first", s.stroke(50), 1);
        Check.due("those that went are not looked at", s.stop(10, 1), -4);
    }

    private static void promise20() {
        StraitSwim s = Made.counted(50, 40, 60, 40, 39, 38, 70);
        Check.due("a run of 1", s.stop(41, 1), 1);
        Check.due("a run that is broken", s.stop(41, 2), 4);
        Check.due("a run of 3", s.stop(41, 3), 5);
        Check.due("a run of 4", s.stop(41, 4), -4);
        Check.due("below, not at", s.stop(38, 1), -4);
        Check.due("at 39", s.stop(39, 1), 5);
        Check.due("all are below 99", s.stop(99, 7), 6);
        Check.due("a run of 8", s.stop(99, 8), -4);
        Check.due("nothing is below 0", s.stop(0, 1), -4);
        Check.due("f -1", s.stop(-1, 1), -1);
        Check.due("f 100", s.stop(100, 1), -1);
        Check.due("k 0", s.stop(1, 0), -1);
        Check.due("k 11", s.stop(1, 11), -1);
        Check.due("k 10", s.stop(99, 10), -4);
        Check.due("no counts", new StraitSwim().stop(99, 1), -4);
    }

    private static void promise21() {
        StraitSwim s = Made.counted(50, 40, 60, 40, 39, 38, 70);
        Check.due("k 1", s.floor(1), 39);
        Check.due("k 2", s.floor(2), 40);
        Check.due("k 3", s.floor(3), 41);
        Check.due("k 4", s.floor(4), 61);
        Check.due("k 7", s.floor(7), 71);
        Check.due("k 8", s.floor(8), -4);
        Check.due("k 0", s.floor(0), -1);
        Check.due("k 11", s.floor(11), -1);
        Check.due("a count of 0", Made.counted(0).floor(1), 1);
        Check.due("a count of 98", Made.counted(98).floor(1), 99);
        Check.due("a count of 99", Made.counted(99).floor(1), -4);
        Check.due("no counts", new StraitSwim().floor(1), -4);
        Check.due("ten counts", Made.counted(1, 2, 3, 4, 5, 6, 7, 8, 9, 10).floor(10), 11);
    }

    private static void promise22() {
        StraitSwim s = Made.withSwimmers(10);
        Check.due("two", s.order(0x21), 2);
        Check.due("six", s.order(0x6A5231), 6);
        Check.due("one", s.order(0x1), -1);
        Check.due("none", s.order(0), -1);
        Check.due("seven", s.order(0x7654321), -1);
        Check.due("one twice", s.order(0x3213), -1);
        Check.due("a 0 between", s.order(0x201), -1);
        Check.due("a 0 at first", s.order(0x210), -1);
        Check.due("no such SWIMMER", s.order(0xB1), -1);
        Check.due("below 0", s.order(-1), -1);
        Check.due("below 0, six good digits", s.order(0x80654321), -1);
        Check.due("a digit far up", s.order(0x10654321), -1);
        Check.due("a turn of the order that stands", s.turn(0), 1);
        Check.due("a refused order leaves turns", s.order(0x11), -1);
        Check.due("turns", s.count(4), 1);
        Check.due("an order takes turns off", s.order(0xA9), 2);
        Check.due("no turns", s.count(4), 0);
        Check.due("no SWIMMER of these", Made.withSwimmers(1).order(0x21), -1);
    }

    private static void promise23() {
        StraitSwim s = Made.withSwimmers(3);
        Check.due("no ORDER", s.turn(0), -3);
        Check.due("no ORDER, no SWIMMER", s.turn(3), -1);
        s.order(0x21);
        Check.due("SWIMMER -1", s.turn(-1), -1);
        Check.due("SWIMMER 3", s.turn(3), -1);
        for (int i = 1; i <= 40; i++) {
            Check.due("turn " + i, s.turn(i % 3), i);
        }
        Check.due("a 41st", s.turn(0), -2);
        Check.due("a 41st of no SWIMMER", s.turn(3), -1);
        Check.due("turns", s.count(4), 40);
    }

    private static void promise24() {
        StraitSwim s = Made.withSwimmers(4);
        Check.due("no ORDER", s.voided(), -3);
        s.order(0x132);
        Check.due("no turns", s.voided(), -4);
        int[] just = {1, 2, 0, 1, 2, 0, 1};
        for (int who : just) {
            s.turn(who);
            Check.due("just so", s.voided(), -4);
        }
        s.turn(0);
        Check.due("not just so", s.voided(), 7);
        s.turn(0);
        s.turn(3);
        Check.due("the first stays", s.voided(), 7);
        s.order(0x21);
        Check.due("a new ORDER", s.voided(), -4);
        s.turn(3);
        Check.due("one that isn't in the ORDER", s.voided(), 0);
    }
}
