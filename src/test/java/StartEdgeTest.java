/** Edges of THE BEST START and of ends(): promises 13 and 14. */
public final class StartEdgeTest {
    public static void main(String[] args) {
        lastQuarterAndAim();
        firstQuarterAndAim();
        fewestQuarters();
        ofSeveral();
        landsInTheLastQuarter();
        bestAnswers();
        bestRefused();
        bestInLand();
        bestOfNone();
        endsOfAll();
        endsNumbers();
        endsRefused();
        endsInLand();
        Check.finish();
    }

    /** HOUR 11 and then HOUR 0 must carry it: that is so from quarter 47 alone. */
    private static void lastQuarterAndAim() {
        Check.terms("THE BEST START of a SWIMMER from a place: of all quarters 0 .. 47 and AIMS");
        StraitSwim s = Made.one(0, 10, 10);
        s.tide(1, 11, 9, 0);
        s.tide(1, 0, 0, -9);
        // From 50, 70 by AIM 7: 66, 63 and then 73, 47.
        s.land(4, 7, 7, true);
        Check.due("quarter 47, AIM 7", s.best(0, 50, 70), 477);
        Check.due("of all of them that one alone", s.ends(0, 50, 70, 0), 1);
        Check.due("by swim()", s.swim(0, 50, 70, 47, 7), 0);
        Check.due("where", s.where(2), 73047);
    }

    /** HOUR 0 must carry it in one quarter: that is so from quarters 0 .. 3 alone. */
    private static void firstQuarterAndAim() {
        Check.terms("quarters 0 .. 47 and AIMS that by which it LANDS");
        StraitSwim s = Made.one(0, 10, 1);
        s.tide(1, 0, 9, 0);
        s.land(5, 11, 11, true);
        Check.due("quarter 0, AIM 0", s.best(0, 99, 50), 0);
        s.tide(1, 0, 0, 0);
        s.tide(1, 11, 9, 0);
        Check.due("the first quarter of the last HOUR", s.best(0, 99, 50), 440);
        s.tide(1, 11, 0, 0);
        Check.due("none", s.best(0, 99, 50), -4);
    }

    private static void fewestQuarters() {
        Check.terms("it LANDS in the fewest quarters;");
        StraitSwim s = Made.one(0, 10, 400);
        s.land(5, 14, 14, true);
        Check.due("four quarters by AIM 0", s.best(0, 100, 55), 0);
        s.land(5, 6, 6, true);
        Check.due("as many by AIM 4: the least AIM", s.best(0, 104, 55), 0);
        s.land(8, 10, 10, true);
        Check.due("three quarters by AIM 2", s.best(0, 104, 55), 2);
        s.tide(1, 11, 0, -9);
        s.land(3, 10, 10, true);
        Check.due("one quarter by AIM 6 with the last HOUR", s.best(0, 104, 57), 446);
    }

    private static void ofSeveral() {
        Check.terms("of several the least quarter, then the least AIM.");
        StraitSwim s = Made.floating(400);
        s.tide(1, 5, 9, 0);
        s.tide(1, 7, 9, 0);
        s.land(5, 11, 11, true);
        Check.due("quarters 20 .. 23 and 28 .. 31, each AIM", s.best(0, 101, 50), 200);
        StraitSwim two = Made.one(0, 10, 1);
        two.tide(1, 7, 9, 0);
        two.land(5, 12, 12, true);
        two.land(6, 10, 10, true);
        // By AIM 2 at any quarter, by AIM 0 in HOUR 7 alone.
        Check.due("the least quarter goes ahead of the least AIM", two.best(0, 101, 51), 2);
        StraitSwim round = Made.one(0, 10, 1);
        for (int row = 4; row <= 6; row++) {
            round.land(row, 9, 11, true);
        }
        round.land(5, 10, 10, false);
        Check.due("all eight AIMS", round.best(0, 105, 55), 0);
        round.land(5, 11, 11, false);
        Check.due("seven of them", round.best(0, 105, 55), 1);
    }

    /** It needs twelve quarters of HOUR 5, and has them from quarter 20 alone. */
    private static void landsInTheLastQuarter() {
        Check.terms("that by which it LANDS in the fewest quarters;");
        StraitSwim s = Made.floating(400);
        s.tide(0, 5, 1, 0);
        s.land(0, 2, 2, true);
        Check.due("in its 100th quarter", s.best(0, 8, 5), 200);
        Check.due("so by swim()", s.swim(0, 8, 5, 20, 0), 0);
        Check.due("100 quarters", s.ended(2), 100);
        Check.due("by each AIM, from that quarter alone", s.ends(0, 8, 5, 0), 8);
        Check.due("one more would be too many", s.best(0, 7, 5), -4);
        Check.due("all are LOST then", s.ends(0, 7, 5, 3), 384);
    }

    private static void bestAnswers() {
        Check.promise(13, "THE BEST START: 10 times the quarter, and AIM.");
        for (int aim = 0; aim < 8; aim++) {
            int[] east = {1, 1, 0, -1, -1, -1, 0, 1};
            int[] north = {0, 1, 1, 1, 0, -1, -1, -1};
            StraitSwim s = Made.one(0, 10, 1);
            s.land(5 + north[aim], 10 + east[aim], 10 + east[aim], true);
            Check.due("AIM " + aim, s.best(0, 105, 55), aim);
        }
        for (int hour = 0; hour < 12; hour++) {
            StraitSwim h = Made.floating(400);
            h.tide(1, hour, 9, 9);
            h.land(5, 11, 11, true);
            Check.due("HOUR " + hour, h.best(0, 101, 50), 40 * hour);
        }
        History.SOME.onlyAnswers("best", 0, 9, 100);
        History.SOME.onlyAnswers("best", 4, 9, 50);
    }

    private static void bestRefused() {
        Check.promise(13, "-1;");
        Edges.within(0, 4, 0, "best", 0, 9, 50);
        History.SOME.refuses(-1, "best", 5, 9, 50);
        History.SOME.refuses(-1, "best", 0, 240, 50);
        History.SOME.refuses(-1, "best", 0, 9, 120);
        History.NEW.refuses(-1, "best", 0, 9, 50);
        History.FULL.refuses(-1, "best", 10, 9, 50);
    }

    private static void bestInLand() {
        Check.promise(13, "-4: in LAND,");
        History.SOME.refuses(-4, "best", 0, 0, 110);
        History.SOME.refuses(-4, "best", 4, 239, 119);
        Check.due("by LAND", History.SOME.made().best(0, 100, 109), 1);
    }

    private static void bestOfNone() {
        Check.promise(13, "or by none it LANDS.");
        StraitSwim s = Made.one(0, 10, 15);
        Check.due("no LAND at all", s.best(0, 110, 55), -4);
        s.land(5, 14, 14, true);
        Check.due("three quarters are enough", s.best(0, 110, 55), 0);
        Check.due("three quarters are too few", s.best(0, 109, 55), -4);
        Check.due("no END LANDED", s.ends(0, 109, 55, 0), 0);
        History.SOME.refuses(-4, "best", 0, 0, 0);
    }

    private static void endsOfAll() {
        Check.promise(14, "How many of all quarters and AIMS have an END (0 .. 3).");
        Edges.within(0, 3, 3, "ends", 0, 9, 50, 0);
        StraitSwim land = Made.one(0, 10, 1);
        for (int row = 4; row <= 6; row++) {
            land.land(row, 9, 11, true);
        }
        land.land(5, 10, 10, false);
        all(land, 105, 55, 0);
        all(Made.one(0, 10, 1), 100, 50, 1);
        StraitSwim drift = Made.floating(400);
        for (int hour = 0; hour < 12; hour++) {
            drift.tide(0, hour, -1, 0);
        }
        all(drift, 99, 0, 2);
        all(Made.floating(400), 0, 0, 3);
    }

    /** All 48 by 8 have the one END, and none another. */
    private static void all(StraitSwim s, int x, int y, int end) {
        for (int e = 0; e < 4; e++) {
            Check.due("END " + e + " of " + end + " alone", s.ends(0, x, y, e), e == end ? 384 : 0);
        }
    }

    private static void endsNumbers() {
        Check.promise(14, "How many of all quarters and AIMS");
        StraitSwim s = Made.one(0, 10, 5);
        s.tide(0, 11, 0, -9);
        s.land(0, 11, 11, true);
        // AIMS 0, 1 LAND it and 5, 6, 7 are out; in HOUR 11, quarters 44 .. 47, so are all but 2.
        Check.due("LANDED", s.ends(0, 105, 0, 0), 2 * 44);
        Check.due("PULLED OUT", s.ends(0, 105, 0, 1), 3 * 44 + 4);
        Check.due("DRIFTED", s.ends(0, 105, 0, 2), 3 * 44 + 7 * 4);
        Check.due("LOST", s.ends(0, 105, 0, 3), 0);
    }

    private static void endsRefused() {
        Check.promise(14, "-1;");
        History.SOME.refuses(-1, "ends", 0, 9, 50, 4);
        History.SOME.refuses(-1, "ends", 0, 9, 50, -1);
        History.SOME.refuses(-1, "ends", 5, 9, 50, 0);
        History.SOME.refuses(-1, "ends", 0, 240, 50, 0);
        History.SOME.refuses(-1, "ends", 0, 9, 120, 0);
        History.NEW.refuses(-1, "ends", 0, 9, 50, 0);
        History.FULL.refuses(-1, "ends", 10, 9, 50, 0);
        History.SOME.onlyAnswers("ends", 3, 9, 100, 0);
    }

    private static void endsInLand() {
        Check.promise(14, "-4: in LAND.");
        for (int end = 0; end < 4; end++) {
            History.SOME.refuses(-4, "ends", 0, 0, 110, end);
            History.SOME.refuses(-4, "ends", 4, 239, 119, end);
        }
        Check.due("by LAND", History.SOME.made().ends(0, 100, 109, 0) > 0 ? 1 : 0, 1);
    }
}
