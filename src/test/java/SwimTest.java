/** Promises 7 to 17: SWIMMERS, their SWIMS, THE BEST START and SHIPS. */
public final class SwimTest {
    public static void main(String[] args) {
        promise7();
        promise8();
        promise9();
        promise10();
        aimsOfPromise10();
        tideOfPromise10();
        lostInPromise10();
        promise11();
        promise12();
        promise13();
        promise14();
        promise15();
        promise16();
        promise17();
        Check.finish();
    }

    private static void promise7() {
        StraitSwim s = new StraitSwim();
        Check.due("kind -1", s.swimmer(-1, 1, 1), -1);
        Check.due("kind 4", s.swimmer(4, 1, 1), -1);
        Check.due("SPEED 0", s.swimmer(0, 0, 1), -1);
        Check.due("SPEED 21", s.swimmer(0, 21, 1), -1);
        Check.due("LIMIT 0", s.swimmer(0, 1, 0), -1);
        Check.due("LIMIT 401", s.swimmer(0, 1, 401), -1);
        for (int i = 0; i < 10; i++) {
            Check.due("SWIMMER " + i, s.swimmer(i % 4, 1 + 2 * i, 400 - i), i);
        }
        Check.due("an eleventh", s.swimmer(0, 1, 1), -2);
        Check.due("an eleventh of no KIND", s.swimmer(4, 1, 1), -1);
        Check.due("SWIMMERS", s.count(0), 10);
    }

    private static void promise8() {
        StraitSwim s = new StraitSwim();
        Check.due("no SWIMMER", s.feed(0, 1), -1);
        s.swimmer(0, 10, 400);
        Check.due("FEED 40", s.feed(0, 40), 0);
        Check.due("FEED 41", s.feed(0, 41), -1);
        Check.due("FEED -1", s.feed(0, -1), -1);
        Check.due("FEED 0", s.feed(0, 0), 40);
        Check.due("FEED 1", s.feed(0, 1), 0);
        Check.due("SWIMMER -1", s.feed(-1, 1), -1);
        Check.due("SWIMMER 1", s.feed(1, 1), -1);
    }

    private static void promise9() {
        StraitSwim s = new StraitSwim();
        for (int kind = 0; kind < 4; kind++) {
            s.swimmer(kind, 10, 400);
        }
        int[][] paces = {
            {0, 0, 10}, {0, 5, 10}, {0, 6, 9}, {0, 53, 2}, {0, 54, 1}, {0, 99, 1},
            {1, 12, 8}, {3, 12, 8}, {2, 0, 14}, {2, 7, 14}, {2, 8, 8}, {2, 35, 2}, {2, 36, 1},
            {2, 99, 1}};
        for (int[] p : paces) {
            Check.due("PACE of " + p[0] + " in " + p[1], s.pace(p[0], p[1], 0), p[2]);
        }
        int[][] colds = {
            {0, 0, 5}, {0, 7, 5}, {0, 8, 6}, {0, 99, 17}, {1, 0, 3}, {1, 8, 4}, {2, 99, 17},
            {3, 0, 1}, {3, 8, 2}, {3, 99, 7}};
        for (int[] c : colds) {
            Check.due("COLD of " + c[0] + " in " + c[1], s.pace(c[0], c[1], 1), c[2]);
        }
        s.set(0, 0);
        Check.due("COLD of a PLAIN one without CHILL", s.pace(0, 0, 1), 0);
        Check.due("COLD of a GREASED one, 1 at least", s.pace(1, 0, 1), 1);
        Check.due("COLD of a GREASED one, 1 in quarter 24", s.pace(1, 24, 1), 1);
        Check.due("COLD of a SEASONED one, 1 at least", s.pace(3, 0, 1), 1);
        s.feed(0, 3);
        Check.due("between feeds", s.pace(0, 1, 0), 10);
        Check.due("FEED in quarter 2", s.pace(0, 2, 0), 5);
        Check.due("FEED in quarter 8", s.pace(0, 8, 0), 4);
        Check.due("half of PACE 1", s.pace(0, 98, 0), 0);
        s.feed(2, 1);
        Check.due("FEED of a QUICK one", s.pace(2, 0, 0), 7);
        Check.due("COLD doesn't look at FEED", s.pace(0, 8, 1), 1);
        Check.due("t -1", s.pace(0, -1, 0), -1);
        Check.due("t 100", s.pace(0, 100, 0), -1);
        Check.due("what 2", s.pace(0, 0, 2), -1);
        Check.due("what -1", s.pace(0, 0, -1), -1);
        Check.due("SWIMMER 4", s.pace(4, 0, 0), -1);
        Check.due("SWIMMER -1", s.pace(-1, 0, 0), -1);
    }

    private static void promise10() {
        StraitSwim s = new StraitSwim();
        Check.due("no SWIMMER", s.swim(0, 0, 0, 0, 0), -1);
        s.swimmer(0, 10, 15);
        s.land(0, 5, 5, true);
        Check.due("LANDED", s.swim(0, 45, 5, 0, 0), 0);
        Check.due("PULLED OUT", s.swim(0, 0, 50, 0, 0), 1);
        Check.due("in quarters", s.ended(2), 3);
        Check.due("COLD is LIMIT", s.ended(3), 15);
        Check.due("DRIFTED", s.swim(0, 239, 50, 0, 0), 2);
        Check.due("LANDED goes ahead of PULLED OUT", s.swim(0, 20, 5, 0, 0), 0);
        Check.due("with COLD", s.ended(3), 15);
        Check.due("DRIFTED goes ahead of PULLED OUT", s.swim(0, 212, 50, 0, 0), 2);
        Check.due("with COLD as it was", s.ended(3), 10);
        Check.due("and the quarter counts", s.ended(2), 3);
        Check.due("in LAND", s.swim(0, 50, 9, 0, 0), -4);
        Check.due("in LAND, at no quarter", s.swim(0, 50, 9, 48, 0), -1);
        Check.due("quarter -1", s.swim(0, 0, 0, -1, 0), -1);
        Check.due("quarter 48", s.swim(0, 0, 0, 48, 0), -1);
        Check.due("AIM -1", s.swim(0, 0, 0, 0, -1), -1);
        Check.due("AIM 8", s.swim(0, 0, 0, 0, 8), -1);
        Check.due("x 240", s.swim(0, 240, 0, 0, 0), -1);
        Check.due("y 120", s.swim(0, 0, 120, 0, 0), -1);
        Check.due("SWIMMER 1", s.swim(1, 0, 0, 0, 0), -1);
        Check.due("the latest stays", s.ended(2), 3);
        Check.due("the last quarter and AIM are some", s.swim(0, 100, 50, 47, 7), 1);
    }

    private static void aimsOfPromise10() {
        StraitSwim s = new StraitSwim();
        s.swimmer(0, 9, 1);
        s.swimmer(0, 9, 1);
        s.feed(1, 1);
        int[][] straight = {{9, 0}, {6, 6}, {0, 9}, {-6, 6}, {-9, 0}, {-6, -6}, {0, -9}, {6, -6}};
        int[][] fed = {{4, 0}, {2, 2}, {0, 4}, {-2, 2}, {-4, 0}, {-2, -2}, {0, -4}, {2, -2}};
        for (int aim = 0; aim < 8; aim++) {
            s.swim(0, 100, 50, 0, aim);
            Check.due("east by AIM " + aim, s.ended(0), 100 + straight[aim][0]);
            Check.due("north by AIM " + aim, s.ended(1), 50 + straight[aim][1]);
            s.swim(1, 100, 50, 0, aim);
            Check.due("fed, east by AIM " + aim, s.where(1) / 1000, 100 + fed[aim][0]);
            Check.due("fed, north by AIM " + aim, s.where(1) % 1000, 50 + fed[aim][1]);
        }
    }

    private static void tideOfPromise10() {
        StraitSwim s = new StraitSwim();
        s.swimmer(0, 1, 20);
        s.tide(0, 0, 0, 9);
        s.tide(1, 11, -5, 0);
        s.tide(1, 0, 7, 1);
        Check.due("through two bands", s.swim(0, 100, 35, 0, 0), 1);
        Check.due("THE TIDE of the place as the quarter begins", s.where(1), 101044);
        Check.due("then of the next band", s.where(2), 109045);
        s.swim(0, 100, 50, 46, 0);
        Check.due("hour 11 in quarter 46", s.where(1), 96050);
        Check.due("hour 11 in quarter 47", s.where(2), 92050);
        Check.due("hour 0 in quarter 48", s.where(3), 100051);
        s.tide(1, 0, -9, 0);
        Check.due("a tide out of the PLACES", s.swim(0, 7, 50, 0, 0), 2);
        Check.due("it stays", s.ended(0), 7);
    }

    private static void lostInPromise10() {
        StraitSwim s = new StraitSwim();
        s.swimmer(0, 1, 400);
        s.set(0, 0);
        s.feed(0, 1);
        Check.due("LOST", s.swim(0, 3, 3, 0, 0), 3);
        Check.due("behind 100 quarters", s.ended(2), 100);
        Check.due("where at last", s.where(100), 3003);
        Check.due("COLD of the feeds, 0 at least", s.ended(3), coldOfFeeds());
        Check.due("all of them LOST", s.ends(0, 3, 3, 3), 384);
        s.land(0, 0, 0, true);
        s.swimmer(1, 1, 100);
        Check.due("PULLED OUT in the last quarter", pulledInLast(s), 1);
    }

    private static int coldOfFeeds() {
        int cold = 0;
        for (int t = 0; t < 100; t++) {
            cold = Math.max(0, cold + t / 8 - 3);
        }
        return cold;
    }

    /** CHILL 0 and a feed in each quarter: COLD is what it is at the end in the last quarter. */
    private static int pulledInLast(StraitSwim s) {
        int limit = coldOfFeeds();
        int who = s.swimmer(0, 1, limit);
        s.feed(who, 1);
        int end = s.swim(who, 100, 50, 0, 0);
        Check.due("in quarters", s.ended(2), 100);
        return end;
    }

    private static void promise11() {
        StraitSwim s = new StraitSwim();
        Check.due("ahead of any", s.ended(0), -3);
        Check.due("ahead of any, no such", s.ended(5), -1);
        s.swimmer(0, 10, 400);
        s.swimmer(0, 10, 12);
        s.swim(1, 10, 20, 0, 1);
        int[] due = {31, 41, 3, 15, 1};
        for (int what = 0; what < 5; what++) {
            Check.due("ended(" + what + ")", s.ended(what), due[what]);
        }
        Check.due("ended(-1)", s.ended(-1), -1);
        Check.due("ended(5)", s.ended(5), -1);
        s.best(0, 100, 50);
        s.ends(0, 100, 50, 2);
        s.swim(0, 240, 0, 0, 0);
        s.set(0, 9);
        for (int what = 0; what < 5; what++) {
            Check.due("still ended(" + what + ")", s.ended(what), due[what]);
        }
    }

    private static void promise12() {
        StraitSwim s = new StraitSwim();
        Check.due("ahead of any", s.where(0), -3);
        Check.due("ahead of any, t 100", s.where(100), -3);
        outOfPromise12("ahead of any", s);
        s.swimmer(0, 10, 11);
        s.swim(0, 200, 20, 0, 0);
        Check.due("at first", s.where(0), 200020);
        Check.due("then", s.where(2), 220020);
        Check.due("at its end", s.where(3), 230020);
        Check.due("behind it", s.where(4), -3);
        Check.due("far behind it", s.where(100), -3);
        outOfPromise12("behind a short one", s);
        s.swim(0, 239, 20, 0, 0);
        Check.due("DRIFTED: ahead of it", s.where(0), 239020);
        Check.due("DRIFTED: at its end", s.where(1), 239020);
        Check.due("DRIFTED: behind it", s.where(2), -3);
        longestOfPromise12();
    }

    private static void longestOfPromise12() {
        StraitSwim s = new StraitSwim();
        s.set(0, 0);
        s.swimmer(3, 1, 400);
        s.feed(0, 1);
        Check.due("LOST", s.swim(0, 100, 50, 0, 0), 3);
        Check.due("ahead of its last quarter", s.where(99), 100050);
        Check.due("at the end of 100 quarters", s.where(100), 100050);
        outOfPromise12("behind the longest", s);
    }

    /** No SWIM has over 100 quarters, so that beyond them a number is out of range. */
    private static void outOfPromise12(String when, StraitSwim s) {
        for (int t : new int[] {Integer.MIN_VALUE, -1, 101, 102, 1000, Integer.MAX_VALUE}) {
            Check.due(when + ", where(" + t + ")", s.where(t), -1);
        }
    }

    private static void promise13() {
        StraitSwim s = new StraitSwim();
        Check.due("no SWIMMER", s.best(0, 0, 0), -1);
        s.swimmer(0, 10, 400);
        Check.due("no LAND", s.best(0, 100, 50), -4);
        s.land(5, 14, 14, true);
        Check.due("in LAND", s.best(0, 140, 50), -4);
        Check.due("straight at it, the least quarter", s.best(0, 100, 55), 0);
        s.land(5, 6, 6, true);
        Check.due("of two the least AIM", s.best(0, 104, 55), 0);
        Check.due("the fewest quarters", s.best(0, 98, 55), 4);
        s.tide(1, 5, -9, 0);
        Check.due("with the tide, the least quarter", s.best(0, 104, 55), 204);
        s.tide(1, 5, 9, 0);
        Check.due("with the other tide", s.best(0, 104, 55), 200);
        Check.due("x 240", s.best(0, 240, 0), -1);
        Check.due("y 120", s.best(0, 0, 120), -1);
        Check.due("SWIMMER 1", s.best(1, 0, 0), -1);
        Check.due("in LAND, of no SWIMMER", s.best(1, 140, 50), -1);
    }

    private static void promise14() {
        StraitSwim s = new StraitSwim();
        s.swimmer(0, 10, 10);
        s.land(5, 11, 11, true);
        Check.due("LANDED", s.ends(0, 100, 55, 0), 48);
        Check.due("PULLED OUT", s.ends(0, 100, 55, 1), 336);
        Check.due("DRIFTED", s.ends(0, 0, 0, 2), 240);
        Check.due("LOST", s.ends(0, 0, 0, 3), 0);
        s.tide(1, 3, 0, 9);
        // It takes AIM 0 off at quarters 12 .. 15, and brings AIM 7 on at 11 .. 15.
        Check.due("LANDED with a tide", s.ends(0, 100, 55, 0), 49);
        Check.due("in LAND", s.ends(0, 110, 55, 0), -4);
        Check.due("in LAND, no END", s.ends(0, 110, 55, 4), -1);
        Check.due("END -1", s.ends(0, 0, 0, -1), -1);
        Check.due("END 4", s.ends(0, 0, 0, 4), -1);
        Check.due("x -1", s.ends(0, -1, 0, 0), -1);
        Check.due("y -1", s.ends(0, 0, -1, 0), -1);
        Check.due("SWIMMER 1", s.ends(1, 0, 0, 0), -1);
    }

    private static void promise15() {
        StraitSwim s = new StraitSwim();
        s.land(0, 0, 0, true);
        Check.due("x 240", s.ship(240, 0, 0, 0), -1);
        Check.due("y -1", s.ship(0, -1, 0, 0), -1);
        Check.due("east 21", s.ship(0, 0, 21, 0), -1);
        Check.due("east -21", s.ship(0, 0, -21, 0), -1);
        Check.due("north 21", s.ship(0, 0, 0, 21), -1);
        Check.due("north -21", s.ship(0, 0, 0, -21), -1);
        for (int i = 0; i < 8; i++) {
            Check.due("SHIP " + i, s.ship(239, 119, -20, 20), i);
        }
        Check.due("a ninth", s.ship(0, 0, 0, 0), -2);
        Check.due("a ninth at no place", s.ship(-1, 0, 0, 0), -1);
        Check.due("SHIPS", s.count(2), 8);
    }

    private static void promise16() {
        StraitSwim s = new StraitSwim();
        s.swimmer(0, 10, 20);
        s.ship(130, 50, 0, 0);
        s.ship(100, 10, 10, 20);
        s.ship(100, 70, 0, 0);
        Check.due("no SWIM", s.near(0), -3);
        Check.due("no SWIM and no SHIP", s.near(3), -1);
        s.swim(0, 100, 50, 0, 0);
        Check.due("19 apart is NEAR", nearAt(s, 131), 1);
        Check.due("20 apart is not", s.near(0), 1);
        Check.due("a SHIP that comes", s.near(1), 1);
        Check.due("20 apart north", s.near(2), -4);
        s.set(1, 21);
        Check.due("20 apart north, NEARNESS 21", s.near(2), 0);
        Check.due("NEARNESS 21", s.near(0), 0);
        Check.due("SHIP -1", s.near(-1), -1);
        Check.due("SHIP 4", s.near(4), -1);
        s.swim(0, 239, 50, 0, 0);
        int drift = s.ship(239, 50, 0, 20);
        Check.due("DRIFTED, behind it 20 apart", s.near(drift), 0);
        s.set(1, 20);
        Check.due("DRIFTED, the SHIP is moved", s.near(drift), -4);
    }

    private static int nearAt(StraitSwim s, int x) {
        return s.near(s.ship(x, 50, 0, 0));
    }

    private static void promise17() {
        StraitSwim s = new StraitSwim();
        Check.due("no SWIM", s.lanes(), -3);
        s.swimmer(0, 10, 20);
        s.swim(0, 100, 50, 0, 0);
        Check.due("no SHIPS", s.lanes(), 0);
        for (int i = 0; i < 8; i++) {
            s.ship(i % 2 == 0 ? 0 : 120, 50, 0, 0);
        }
        Check.due("each second", s.lanes(), 0xAA);
        s.swim(0, 0, 50, 0, 2);
        Check.due("each other second", s.lanes(), 0x55);
    }
}
