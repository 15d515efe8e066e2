/** Edges of a SWIM: where it begins, each quarter, its four ENDS, and promises 10 to 12. */
public final class SwimEdgeTest {
    public static void main(String[] args) {
        startsInWater();
        aimNumbers();
        sevenTenths();
        tideAsTheQuarterBegins();
        clockTurnsInASwim();
        driftedAtEachSide();
        driftedByTheTide();
        driftedQuarterCounts();
        landed();
        landedAheadOfPulledOut();
        pulledOut();
        lost();
        endsInTheLastQuarter();
        swimAnswers();
        swimRefused();
        swimFromLand();
        endedAnswers();
        endedOfTheLatest();
        endedRefused();
        endedOfNone();
        whereAnswers();
        whereRefused();
        whereOfNone();
        whereBehindTheEnd();
        Check.finish();
    }

    private static void startsInWater() {
        Check.terms("A SWIM: a SWIMMER from a place (in WATER) at a quarter");
        Edges.within(0, 47, 3, "swim", 0, 9, 50, 9, 1);
        Edges.within(0, 4, 0, "swim", 0, 9, 50, 9, 1);
        StraitSwim s = Made.one(0, 1, 1);
        s.land(5, 10, 10, true);
        int[][] in = {{100, 50}, {109, 50}, {100, 59}, {109, 59}};
        for (int[] p : in) {
            Check.due("in LAND", s.swim(0, p[0], p[1], 0, 2), -4);
        }
        int[][] by = {{99, 50}, {110, 50}, {100, 49}, {109, 60}};
        for (int[] p : by) {
            Check.holds("by LAND", s.swim(0, p[0], p[1], 0, 2) >= 0);
        }
    }

    private static void aimNumbers() {
        Check.terms("with an AIM 0 .. 7: (1, 0), (1, 1), (0, 1), (-1, 1), (-1, 0), (-1, -1),"
                + " (0, -1), (1, -1).");
        Edges.within(0, 7, 4, "swim", 0, 9, 50, 9, 1);
        int[][] due = {{20, 0}, {14, 14}, {0, 20}, {-14, 14}, {-20, 0}, {-14, -14}, {0, -20},
            {14, -14}};
        for (int aim = 0; aim < 8; aim++) {
            StraitSwim s = Made.one(0, 20, 1);
            s.swim(0, 100, 50, 0, aim);
            Check.due("AIM " + aim, s.where(1), 1000 * (100 + due[aim][0]) + 50 + due[aim][1]);
        }
    }

    private static void sevenTenths() {
        Check.terms("Each quarter: it moves its PACE along AIM (for 1, 3, 5, 7 seven tenths of it"
                + " each way, cut)");
        int[] due = {0, 0, 1, 2, 2, 3, 4, 4, 5, 6, 7, 7, 8, 9, 9, 10, 11, 11, 12, 13, 14};
        for (int pace = 1; pace <= 20; pace++) {
            StraitSwim s = Made.one(0, pace, 1);
            int far = due[pace];
            int[][] ways = {{1, far, far}, {3, -far, far}, {5, -far, -far}, {7, far, -far}};
            for (int[] way : ways) {
                s.swim(0, 100, 50, 0, way[0]);
                Check.due("PACE " + pace + ", AIM " + way[0], s.where(1),
                        1000 * (100 + way[1]) + 50 + way[2]);
            }
            s.swim(0, 100, 50, 0, 0);
            Check.due("PACE " + pace + ", AIM 0", s.where(1), 1000 * (100 + pace) + 50);
        }
        StraitSwim quick = Made.one(2, 20, 1);
        quick.swim(0, 100, 50, 0, 1);
        Check.due("PACE 24", quick.where(1), 116066);
        quick.feed(0, 1);
        quick.swim(0, 100, 50, 0, 5);
        Check.due("half of it", quick.where(1), 92042);
    }

    private static void tideAsTheQuarterBegins() {
        Check.terms("and as THE TIDE of its place (as the quarter begins) and HOUR carries it;"
                + " then COLD is more.");
        for (int edge : new int[] {40, 80}) {
            StraitSwim s = Made.one(0, 1, 400);
            s.tide(edge / 40 - 1, 0, 3, 0);
            s.tide(edge / 40, 0, -5, 0);
            s.swim(0, 100, edge - 1, 0, 2);
            Check.due("over " + edge + " to the north: as it begins", s.where(1), 103000 + edge);
            Check.due("then the other BAND", s.where(2), 98000 + edge + 1);
            s.swim(0, 100, edge, 0, 6);
            Check.due("over " + edge + " to the south: as it begins", s.where(1), 95000 + edge - 1);
            Check.due("then the other BAND", s.where(2), 98000 + edge - 2);
        }
        StraitSwim s = Made.one(0, 1, 6);
        s.swim(0, 100, 50, 0, 0);
        Check.due("COLD of both quarters", s.ended(3), 10);
    }

    private static void clockTurnsInASwim() {
        Check.terms("QUARTERS 0 .. 47 of a clock day;");
        StraitSwim s = Made.floating(400);
        s.tide(1, 11, 2, 0);
        s.tide(1, 0, 0, 1);
        s.swim(0, 100, 50, 47, 0);
        int[][] due = {{0, 100050}, {1, 102050}, {2, 102051}, {5, 102054}, {6, 102054},
            {45, 102054}, {46, 104054}, {49, 110054}, {50, 110055}, {53, 110058}, {93, 110058},
            {94, 112058}, {97, 118058}, {98, 118059}, {100, 118061}};
        for (int[] d : due) {
            Check.due("from quarter 47, where(" + d[0] + ")", s.where(d[0]), d[1]);
        }
        s.swim(0, 100, 50, 0, 0);
        Check.due("from quarter 0, HOUR 0 first", s.where(1), 100051);
        Check.due("and no HOUR 11 yet", s.where(44), 100054);
        Check.due("HOUR 11 in quarter 44", s.where(45), 102054);
    }

    private static void driftedAtEachSide() {
        Check.terms("END: DRIFTED (2), if it would be out of the PLACES");
        // AIM, the last place from which it stays within, the first from which it doesn't.
        int[][] sides = {{0, 230, 50, 231, 50}, {2, 100, 110, 100, 111}, {4, 9, 50, 8, 50},
            {6, 100, 9, 100, 8}, {1, 233, 50, 234, 50}, {1, 100, 113, 100, 114},
            {3, 6, 50, 5, 50}, {3, 100, 113, 100, 114}, {5, 6, 50, 5, 50}, {5, 100, 6, 100, 5},
            {7, 233, 50, 234, 50}, {7, 100, 6, 100, 5}};
        for (int[] e : sides) {
            StraitSwim s = Made.one(0, 9, 1);
            String what = "AIM " + e[0] + " from " + e[1] + ", " + e[2];
            Check.due(what, s.swim(0, e[1], e[2], 0, e[0]), 1);
            Check.holds(what + " moves", s.where(1) != s.where(0));
            Check.due("AIM " + e[0] + " from " + e[3] + ", " + e[4],
                    s.swim(0, e[3], e[4], 0, e[0]), 2);
            Check.due("it stays where it was", s.where(1), 1000 * e[3] + e[4]);
        }
    }

    private static void driftedByTheTide() {
        Check.terms("(it stays where it was, COLD as it was;");
        int[][] tides = {{-9, 0, 9, 50, 8, 50}, {9, 0, 230, 50, 231, 50}, {0, -9, 100, 9, 100, 8},
            {0, 9, 100, 110, 100, 111}};
        for (int[] e : tides) {
            StraitSwim s = Made.floating(1);
            s.set(0, 4);
            for (int band = 0; band < 3; band++) {
                s.tide(band, 0, e[0], e[1]);
            }
            Check.due("to the last place", s.swim(0, e[2], e[3], 0, 0), 1);
            Check.due("COLD is more", s.ended(3), 1);
            Check.due("beyond it", s.swim(0, e[4], e[5], 0, 0), 2);
            Check.due("x as it was", s.ended(0), e[4]);
            Check.due("y as it was", s.ended(1), e[5]);
            Check.due("COLD as it was", s.ended(3), 0);
        }
    }

    private static void driftedQuarterCounts() {
        Check.terms("the quarter counts);");
        StraitSwim s = Made.one(0, 10, 15);
        Check.due("DRIFTED in the first", s.swim(0, 235, 50, 0, 0), 2);
        Check.due("one quarter", s.ended(2), 1);
        Check.due("no COLD", s.ended(3), 0);
        Check.due("DRIFTED in the third, which would be too cold", s.swim(0, 215, 50, 0, 0), 2);
        Check.due("three quarters", s.ended(2), 3);
        Check.due("COLD of two", s.ended(3), 10);
        Check.due("where it was", s.ended(0), 235);
        s.feed(0, 3);
        Check.due("DRIFTED in the third, with a feed", s.swim(0, 215, 50, 0, 0), 2);
        Check.due("three quarters still", s.ended(2), 3);
        Check.due("that feed takes no COLD", s.ended(3), 10);
        s.feed(0, 1);
        Check.due("a feed in each quarter", s.swim(0, 232, 50, 0, 0), 2);
        Check.due("two quarters", s.ended(2), 2);
        Check.due("COLD of one", s.ended(3), 2);
    }

    private static void landed() {
        Check.terms("else LANDED (0), if it is in a CELL of LAND;");
        StraitSwim s = Made.one(0, 9, 1);
        s.land(5, 10, 10, true);
        int[][] last = {{91, 50, 0}, {100, 41, 2}, {118, 59, 4}, {109, 68, 6}};
        int[][] first = {{90, 50, 0}, {100, 40, 2}, {119, 59, 4}, {109, 69, 6}};
        for (int i = 0; i < 4; i++) {
            Check.due("just in it by AIM " + last[i][2],
                    s.swim(0, last[i][0], last[i][1], 0, last[i][2]), 0);
            Check.due("just ahead of it by AIM " + first[i][2],
                    s.swim(0, first[i][0], first[i][1], 0, first[i][2]), 1);
        }
        StraitSwim over = Made.one(0, 20, 1);
        over.land(5, 10, 10, true);
        Check.due("over it, not in it", over.swim(0, 95, 55, 0, 0), 1);
        StraitSwim rim = Made.one(0, 9, 400);
        rim.land(0, 23, 23, true);
        Check.due("at the rim", rim.swim(0, 212, 5, 0, 0), 0);
        Check.due("beyond the rim", rim.swim(0, 229, 15, 0, 0), 2);
    }

    private static void landedAheadOfPulledOut() {
        Check.terms("else PULLED OUT (1),");
        StraitSwim s = Made.one(0, 10, 5);
        s.land(5, 10, 10, true);
        Check.due("LANDED, though too cold", s.swim(0, 95, 55, 0, 0), 0);
        Check.due("with the COLD of that quarter", s.ended(3), 5);
        Check.due("PULLED OUT ahead of it", s.swim(0, 85, 55, 0, 0), 1);
        Check.due("just ahead of it", s.ended(0), 95);
    }

    private static void pulledOut() {
        Check.terms("if COLD is LIMIT or more;");
        int[][] due = {{4, 1, 5}, {5, 1, 5}, {6, 2, 10}, {10, 2, 10}, {11, 3, 15}, {40, 8, 40},
            {41, 9, 46}, {46, 9, 46}, {47, 10, 52}};
        for (int[] d : due) {
            StraitSwim s = Made.one(0, 1, d[0]);
            Check.due("LIMIT " + d[0], s.swim(0, 100, 50, 0, 0), 1);
            Check.due("LIMIT " + d[0] + ": in quarters", s.ended(2), d[1]);
            Check.due("LIMIT " + d[0] + ": COLD", s.ended(3), d[2]);
        }
    }

    private static void lost() {
        Check.terms("else LOST (3) behind 100 quarters.");
        // CHILL 0 and a feed in each quarter: COLD is 315 behind 99 quarters, 324 behind 100.
        StraitSwim s = Made.floating(325);
        Check.due("COLD below LIMIT in the 100th", s.swim(0, 100, 50, 0, 0), 3);
        Check.due("100 quarters", s.ended(2), 100);
        Check.due("COLD", s.ended(3), 324);
        Check.due("where at last", s.where(100), 100050);
        StraitSwim at = Made.floating(324);
        Check.due("COLD is LIMIT in the 100th", at.swim(0, 100, 50, 0, 0), 1);
        Check.due("100 quarters too", at.ended(2), 100);
        StraitSwim ahead = Made.floating(315);
        Check.due("COLD is LIMIT in the 99th", ahead.swim(0, 100, 50, 0, 0), 1);
        Check.due("99 quarters", ahead.ended(2), 99);
        Check.due("COLD then", ahead.ended(3), 315);
    }

    /** From quarter 1 HOUR 1 carries it nine times, the last time in its 100th quarter. */
    private static void endsInTheLastQuarter() {
        Check.terms("LOST (3) behind 100 quarters.");
        StraitSwim s = Made.floating(400);
        s.land(0, 2, 2, true);
        s.tide(0, 1, 1, 0);
        Check.due("LANDED in the 100th", s.swim(0, 11, 5, 1, 0), 0);
        Check.due("100 quarters", s.ended(2), 100);
        Check.due("x", s.ended(0), 20);
        Check.due("a quarter too late", s.swim(0, 10, 5, 1, 0), 3);
        Check.due("just ahead of it", s.ended(0), 19);
        s.tide(0, 1, -1, 0);
        Check.due("DRIFTED in the 100th", s.swim(0, 8, 5, 1, 0), 2);
        Check.due("100 quarters, the last one counts", s.ended(2), 100);
        Check.due("it stays", s.ended(0), 0);
        Check.due("COLD as it was behind 99", s.ended(3), 315);
        Check.due("the last place", s.swim(0, 9, 5, 1, 0), 3);
        Check.due("x is 0", s.ended(0), 0);
        Check.due("COLD of all", s.ended(3), 324);
    }

    private static void swimAnswers() {
        Check.promise(10, "A SWIM: its END.");
        StraitSwim s = Made.one(0, 10, 15);
        s.land(0, 5, 5, true);
        Check.due("LANDED", s.swim(0, 45, 5, 0, 0), 0);
        Check.due("PULLED OUT", s.swim(0, 0, 50, 0, 0), 1);
        Check.due("DRIFTED", s.swim(0, 239, 50, 0, 0), 2);
        Check.due("LOST", Made.floating(400).swim(0, 0, 0, 47, 7), 3);
    }

    private static void swimRefused() {
        Check.promise(10, "-1;");
        for (History h : new History[] {History.SOME, History.FULL}) {
            h.refuses(-1, "swim", -1, 9, 50, 0, 0);
            h.refuses(-1, "swim", h == History.SOME ? 5 : 10, 9, 50, 0, 0);
            h.refuses(-1, "swim", 0, -1, 50, 0, 0);
            h.refuses(-1, "swim", 0, 240, 50, 0, 0);
            h.refuses(-1, "swim", 0, 9, -1, 0, 0);
            h.refuses(-1, "swim", 0, 9, 120, 0, 0);
            h.refuses(-1, "swim", 0, 9, 50, -1, 0);
            h.refuses(-1, "swim", 0, 9, 50, 48, 0);
            h.refuses(-1, "swim", 0, 9, 50, 0, -1);
            h.refuses(-1, "swim", 0, 9, 50, 0, 8);
        }
        History.NEW.refuses(-1, "swim", 0, 9, 50, 0, 0);
    }

    private static void swimFromLand() {
        Check.promise(10, "-4: the place is in LAND.");
        History.SOME.refuses(-4, "swim", 0, 0, 110, 0, 0);
        History.SOME.refuses(-4, "swim", 0, 239, 119, 47, 7);
        Check.due("just south of it", History.SOME.made().swim(0, 0, 109, 0, 2), 0);
    }

    private static void endedAnswers() {
        Check.promise(11, "0 x, 1 y at its end, 2 quarters, 3 COLD, 4 SWIMMER.");
        Edges.within(0, 4, 0, "ended", 0);
        StraitSwim s = new StraitSwim();
        for (int k = 0; k < 10; k++) {
            s.swimmer(0, 20, 6);
        }
        s.swim(9, 199, 119, 0, 0);
        int[] due = {239, 119, 2, 10, 9};
        for (int what = 0; what < 5; what++) {
            Check.due("ended(" + what + ")", s.ended(what), due[what]);
        }
        s.swim(0, 0, 0, 0, 4);
        int[] least = {0, 0, 1, 0, 0};
        for (int what = 0; what < 5; what++) {
            Check.due("the least, ended(" + what + ")", s.ended(what), least[what]);
        }
    }

    private static void endedOfTheLatest() {
        Check.promise(11, "Of the latest swim() that was not refused:");
        StraitSwim s = Made.one(0, 10, 400);
        s.swimmer(0, 5, 12);
        s.land(5, 14, 14, true);
        s.swim(0, 100, 30, 0, 0);
        s.swim(1, 100, 50, 0, 0);
        Check.due("the later one", s.ended(4), 1);
        Check.due("a refused one", s.swim(0, 100, 50, 48, 0), -1);
        Check.due("one from LAND", s.swim(0, 140, 50, 0, 0), -4);
        s.best(0, 100, 50);
        s.ends(0, 100, 50, 0);
        s.land(5, 10, 12, true);
        s.feed(1, 1);
        s.set(0, 20);
        s.tide(1, 0, 9, 9);
        int[] due = {115, 50, 3, 15, 1};
        for (int what = 0; what < 5; what++) {
            Check.due("still ended(" + what + ")", s.ended(what), due[what]);
        }
    }

    private static void endedRefused() {
        Check.promise(11, "-1;");
        for (History h : History.values()) {
            h.refuses(-1, "ended", -1);
            h.refuses(-1, "ended", 5);
        }
    }

    private static void endedOfNone() {
        Check.promise(11, "-3: there was none.");
        for (int what = 0; what < 5; what++) {
            History.NEW.refuses(-3, "ended", what);
        }
        StraitSwim s = Made.one(0, 10, 400);
        s.land(5, 14, 14, true);
        s.swim(0, 140, 50, 0, 0);
        s.swim(0, 240, 50, 0, 0);
        s.best(0, 100, 50);
        s.ends(0, 100, 50, 0);
        for (int what = 0; what < 5; what++) {
            Check.due("refused ones, best() and ends() are none", s.ended(what), -3);
        }
        s.swim(0, 239, 50, 0, 0);
        Check.due("the first one", s.ended(2), 1);
    }

    private static void whereAnswers() {
        Check.promise(12, "Where it was ahead of its t-th quarter"
                + " (behind the last one: at its end): 1000 x and y.");
        Edges.within(0, 100, 0, "where", 0);
        StraitSwim s = Made.one(0, 10, 11);
        s.swim(0, 209, 119, 0, 0);
        int[] due = {209119, 219119, 229119, 239119};
        for (int t = 0; t < due.length; t++) {
            Check.due("where(" + t + ")", s.where(t), due[t]);
        }
        s.swim(0, 0, 0, 0, 4);
        Check.due("the first place", s.where(0), 0);
        Check.due("at its end, DRIFTED", s.where(1), 0);
        StraitSwim longest = Made.floating(400);
        longest.swim(0, 7, 8, 0, 0);
        for (int t : new int[] {0, 1, 99, 100}) {
            Check.due("of 100 quarters, where(" + t + ")", longest.where(t), 7008);
        }
    }

    private static void whereRefused() {
        Check.promise(12, "-1;");
        for (History h : History.values()) {
            h.refuses(-1, "where", -1);
            h.refuses(-1, "where", 101);
            h.refuses(-1, "where", Integer.MIN_VALUE);
            h.refuses(-1, "where", Integer.MAX_VALUE);
        }
        StraitSwim longest = Made.floating(400);
        longest.swim(0, 7, 8, 0, 0);
        Check.due("beyond 100 quarters", longest.where(101), -1);
    }

    private static void whereOfNone() {
        Check.promise(12, "-3: there was none,");
        for (int t : new int[] {0, 1, 100}) {
            History.NEW.refuses(-3, "where", t);
        }
    }

    private static void whereBehindTheEnd() {
        Check.promise(12, "or it ended ahead.");
        StraitSwim s = Made.one(0, 10, 11);
        s.swim(0, 100, 50, 0, 0);
        Check.due("at its end", s.where(3), 130050);
        Check.due("behind it", s.where(4), -3);
        Check.due("far behind it", s.where(100), -3);
        StraitSwim longest = Made.floating(400);
        longest.swim(0, 7, 8, 0, 0);
        StraitSwim last = Made.floating(315);
        last.swim(0, 7, 8, 0, 0);
        Check.due("at the end of 99 quarters", last.where(99), 7008);
        Check.due("the 100th is behind it", last.where(100), -3);
        longest.swim(0, 0, 0, 0, 0);
        longest.tide(0, 0, -9, 0);
        longest.swim(0, 0, 0, 0, 0);
        Check.due("a short one behind a long one", longest.where(1), 0);
        Check.due("the long one's places are gone", longest.where(2), -3);
    }
}
