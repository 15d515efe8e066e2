/** Promises 25 to 29: DAYS of a neap, DONE, WHO GOES, and what is counted. */
public final class NeapTest {
    public static void main(String[] args) {
        promise25();
        promise26();
        promise27();
        promise28();
        nobodyOfPromise28();
        promise29();
        Check.finish();
    }

    private static StraitSwim withSwimmers(int many, int... calmDays) {
        StraitSwim s = Made.withSwimmers(many);
        for (int day : calmDays) {
            s.calm(day, true);
        }
        return s;
    }

    private static void promise25() {
        StraitSwim s = new StraitSwim();
        Check.due("not CALM at first", s.calm(0, false), 0);
        Check.due("CALM", s.calm(0, true), 1);
        Check.due("CALM again", s.calm(0, true), 0);
        Check.due("the last", s.calm(15, true), 1);
        Check.due("DAY -1", s.calm(-1, true), -1);
        Check.due("DAY 16", s.calm(16, true), -1);
        Check.due("DAY 32", s.calm(32, true), -1);
        Check.due("not CALM", s.calm(0, false), 1);
        Check.due("CALM DAYS", s.count(5), 1);
    }

    private static void promise26() {
        StraitSwim s = withSwimmers(2);
        Check.due("it had none", s.slot(0, 0, 1, 0), 1);
        Check.due("it had one", s.slot(0, 3, 4, 65535), 0);
        Check.due("the other had none", s.slot(1, 3, 4, 65535), 1);
        Check.due("SWIMMER -1", s.slot(-1, 0, 1, 0), -1);
        Check.due("SWIMMER 2", s.slot(2, 0, 1, 0), -1);
        Check.due("PILOT -1", s.slot(0, -1, 1, 0), -1);
        Check.due("PILOT 4", s.slot(0, 4, 1, 0), -1);
        Check.due("SLOT 0", s.slot(0, 0, 0, 0), -1);
        Check.due("SLOT 5", s.slot(0, 0, 5, 0), -1);
        Check.due("DAYS -1", s.slot(0, 0, 1, -1), -1);
        Check.due("DAYS 65536", s.slot(0, 0, 1, 65536), -1);
        s.calm(7, true);
        Check.due("as told at last", s.goes(7, 3), 0);
    }

    private static void promise27() {
        Check.due("nobody", new StraitSwim().done(), 0);
        StraitSwim s = withSwimmers(10);
        for (int i = 0; i < 10; i++) {
            s.slot(i, 0, 1, 65535);
        }
        Check.due("no CALM DAY", s.done(), 0);
        for (int day = 0; day < 16; day++) {
            s.calm(day, true);
            Check.due("one a DAY", s.done(), Math.min(10, day + 1));
        }
        StraitSwim two = withSwimmers(4, 3);
        for (int i = 0; i < 4; i++) {
            two.slot(i, i, 1, 8);
        }
        Check.due("each PILOT takes one", two.done(), 4);
        two.slot(3, 0, 1, 8);
        Check.due("one PILOT's DAY once", two.done(), 3);
        chainOfPromise27();
    }

    /** Each can on its own DAY and the next, the last on DAY 0 alone: all must move on. */
    private static void chainOfPromise27() {
        StraitSwim s = withSwimmers(10, 0, 1, 2, 3, 4, 5, 6, 7, 8, 9);
        for (int i = 0; i < 9; i++) {
            s.slot(i, 2, 1, 3 << i);
        }
        s.slot(9, 2, 1, 1);
        Check.due("a chain", s.done(), 10);
        Check.due("the last goes on DAY 0", s.goes(0, 2), 9);
        for (int day = 1; day < 10; day++) {
            Check.due("the others one DAY on", s.goes(day, 2), day - 1);
        }
        s.calm(5, false);
        Check.due("a chain that is cut", s.done(), 9);
    }

    private static void promise28() {
        StraitSwim s = withSwimmers(4, 0, 1);
        s.slot(0, 1, 2, 3);
        s.slot(1, 1, 2, 3);
        s.slot(2, 1, 1, 2);
        Check.due("the least number", s.goes(0, 1), 0);
        Check.due("the least SLOT", s.goes(1, 1), 2);
        s.slot(2, 1, 1, 1);
        Check.due("the least SLOT first", s.goes(0, 1), 2);
        Check.due("then the least number", s.goes(1, 1), 0);
        s.slot(0, 1, 2, 1);
        s.slot(1, 1, 3, 1);
        s.slot(3, 1, 4, 3);
        Check.due("the most can still be had", s.goes(0, 1), 2);
        Check.due("by the one with the greatest SLOT", s.goes(1, 1), 3);
        s.slot(2, 0, 1, 1);
        Check.due("of another PILOT", s.goes(0, 0), 2);
        Check.due("the other's DAY", s.goes(0, 1), 0);
        Check.due("DAY -1", s.goes(-1, 0), -1);
        Check.due("DAY 16", s.goes(16, 0), -1);
        Check.due("PILOT -1", s.goes(0, -1), -1);
        Check.due("PILOT 4", s.goes(0, 4), -1);
    }

    private static void nobodyOfPromise28() {
        StraitSwim s = withSwimmers(2, 0, 2, 15);
        s.slot(0, 0, 1, 65535);
        Check.due("on the first CALM DAY", s.goes(0, 0), 0);
        Check.due("one SWIMMER once", s.goes(2, 0), -2);
        Check.due("a DAY that isn't CALM", s.goes(1, 0), -2);
        Check.due("a PILOT of nobody", s.goes(0, 3), -2);
        s.slot(1, 0, 1, 1 << 15);
        Check.due("on the last DAY", s.goes(15, 0), 1);
        s.slot(0, 0, 1, 0);
        Check.due("one without DAYS", s.goes(0, 0), -2);
    }

    private static void promise29() {
        StraitSwim s = withSwimmers(3, 1, 2);
        s.land(0, 0, 4, true);
        s.ship(0, 0, 0, 0);
        s.stroke(1);
        s.stroke(1);
        s.stroke(1);
        s.stroke(1);
        s.order(0x21);
        s.turn(0);
        int[] due = {3, 5, 1, 4, 1, 2};
        for (int what = 0; what < 6; what++) {
            Check.due("count(" + what + ")", s.count(what), due[what]);
        }
        Check.due("count(-1)", s.count(-1), -1);
        Check.due("count(6)", s.count(6), -1);
    }
}
