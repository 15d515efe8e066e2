/** Edges of SWIMMERS: KINDS, COLD, PACE and FEED, and promises 7 to 9. */
public final class SwimmerEdgeTest {
    public static void main(String[] args) {
        swimmersAsTheyCome();
        kinds();
        speedAndLimit();
        chill();
        coldOfPlain();
        coldOfGreased();
        coldOfSeasoned();
        paceOfPlain();
        paceOfQuick();
        feedNumbers();
        feedQuarters();
        feedHalvesPace();
        feedTakesCold();
        swimmerNumbers();
        swimmerRefused();
        swimmersAreTen();
        feedAnswers();
        feedRefused();
        paceLooksAtFeed();
        coldLooksNotAtFeed();
        paceQuarters();
        paceRefused();
        Check.finish();
    }

    private static void swimmersAsTheyCome() {
        Check.terms("SWIMMERS 0 .. 9 as they come, of KINDS:");
        StraitSwim s = new StraitSwim();
        for (int k = 0; k < 10; k++) {
            Check.due("not yet", s.pace(k, 0, 0), -1);
            Check.due("SWIMMER " + k, s.swimmer(k % 4, k + 1, 400), k);
            Check.due("its SPEED", s.pace(k, 0, 0), k + 1 + (k % 4 == 2 ? 4 : 0));
        }
        Check.due("SWIMMER 0 as it came", s.pace(0, 0, 0), 1);
        Check.due("no SWIMMER 10", s.pace(10, 0, 0), -1);
        Check.due("no SWIMMER -1", s.pace(-1, 0, 0), -1);
    }

    private static void kinds() {
        Check.terms("0 PLAIN; 1 GREASED under PLAIN; 2 QUICK under PLAIN;"
                + " 3 SEASONED under GREASED;");
        Edges.within(0, 3, 0, "swimmer", 0, 9, 9);
        int[] paces = {10, 10, 14, 10};
        int[] colds = {10, 8, 10, 4};
        for (int kind = 0; kind < 4; kind++) {
            StraitSwim s = Made.one(kind, 10, 400);
            s.set(0, 10);
            Check.due("PACE of KIND " + kind, s.pace(0, 0, 0), paces[kind]);
            Check.due("COLD of KIND " + kind, s.pace(0, 0, 1), colds[kind]);
            Check.due("later PACE of KIND " + kind, s.pace(0, 12, 0), kind == 2 ? 7 : 8);
        }
    }

    private static void speedAndLimit() {
        Check.terms("each with a SPEED 1 .. 20 and a LIMIT of cold 1 .. 400.");
        Edges.within(1, 20, 1, "swimmer", 0, 9, 9);
        Edges.within(1, 400, 2, "swimmer", 0, 9, 9);
        Check.due("SPEED 1", Made.one(0, 1, 1).pace(0, 0, 0), 1);
        Check.due("SPEED 20", Made.one(0, 20, 1).pace(0, 0, 0), 20);
        StraitSwim least = Made.one(0, 1, 1);
        least.set(0, 1);
        least.swim(0, 100, 50, 0, 0);
        Check.due("LIMIT 1: in quarters", least.ended(2), 1);
        Check.due("LIMIT 1: COLD", least.ended(3), 1);
        // CHILL 13 and t / 8: 384 behind 27 quarters, and 16 more in the next.
        int[][] limits = {{384, 27, 384}, {385, 28, 400}, {399, 28, 400}, {400, 28, 400}};
        for (int[] l : limits) {
            StraitSwim s = Made.one(0, 1, l[0]);
            s.set(0, 13);
            Check.due("LIMIT " + l[0], s.swim(0, 100, 50, 0, 0), 1);
            Check.due("LIMIT " + l[0] + ": in quarters", s.ended(2), l[1]);
            Check.due("LIMIT " + l[0] + ": COLD", s.ended(3), l[2]);
        }
    }

    private static void chill() {
        Check.terms("CHILL (0 .. 20; 5 at first)");
        StraitSwim s = Made.one(0, 1, 400);
        Check.due("5 at first", s.pace(0, 0, 1), 5);
        s.set(0, 20);
        Check.due("20", s.pace(0, 0, 1), 20);
        s.set(0, 21);
        Check.due("not 21", s.pace(0, 0, 1), 20);
        s.set(0, 0);
        Check.due("0", s.pace(0, 0, 1), 0);
        s.set(0, -1);
        Check.due("not -1", s.pace(0, 0, 1), 0);
    }

    private static void coldOfPlain() {
        Check.terms("COLD that a swimmer gets in its t-th quarter (t from 0):"
                + " CHILL (0 .. 20; 5 at first) and t / 8 (cut);");
        for (int kind : new int[] {0, 2}) {
            StraitSwim s = Made.one(kind, 1, 400);
            int[][] due = {{0, 0}, {7, 0}, {8, 1}, {15, 1}, {16, 2}, {95, 11}, {96, 12}, {99, 12}};
            for (int[] d : due) {
                Check.due("KIND " + kind + ", t " + d[0], s.pace(0, d[0], 1), 5 + d[1]);
            }
        }
    }

    private static void coldOfGreased() {
        Check.terms("GREASED: less 2 (1 at least);");
        int[][] due = {{0, 0, 1}, {1, 0, 1}, {2, 0, 1}, {3, 0, 1}, {4, 0, 2}, {20, 0, 18},
            {2, 15, 1}, {2, 16, 2}, {0, 31, 1}, {0, 32, 2}, {20, 99, 30}};
        for (int[] d : due) {
            StraitSwim s = Made.one(1, 1, 400);
            s.set(0, d[0]);
            Check.due("CHILL " + d[0] + ", t " + d[1], s.pace(0, d[1], 1), d[2]);
        }
    }

    private static void coldOfSeasoned() {
        Check.terms("SEASONED: half of what it would be as GREASED (cut; 1 at least).");
        int[][] due = {{0, 0, 1}, {2, 0, 1}, {3, 0, 1}, {4, 0, 1}, {5, 0, 1}, {6, 0, 2}, {7, 0, 2},
            {8, 0, 3}, {20, 0, 9}, {20, 7, 9}, {20, 8, 9}, {20, 16, 10}, {20, 99, 15}};
        for (int[] d : due) {
            StraitSwim s = Made.one(3, 1, 400);
            s.set(0, d[0]);
            Check.due("CHILL " + d[0] + ", t " + d[1], s.pace(0, d[1], 1), d[2]);
        }
    }

    private static void paceOfPlain() {
        Check.terms("PACE in its t-th quarter: SPEED less t / 6 (cut; 1 at least);");
        int[][] due = {{20, 0, 20}, {20, 5, 20}, {20, 6, 19}, {20, 11, 19}, {20, 12, 18},
            {20, 95, 5}, {20, 96, 4}, {20, 99, 4}, {1, 0, 1}, {1, 5, 1}, {1, 6, 1}, {1, 99, 1},
            {2, 5, 2}, {2, 6, 1}, {2, 12, 1}, {2, 18, 1}, {16, 95, 1}, {17, 96, 1}, {18, 96, 2}};
        for (int kind : new int[] {0, 1, 3}) {
            for (int[] d : due) {
                Check.due("KIND " + kind + ", SPEED " + d[0] + ", t " + d[1],
                        Made.one(kind, d[0], 400).pace(0, d[1], 0), d[2]);
            }
        }
    }

    private static void paceOfQuick() {
        Check.terms("QUICK: SPEED and 4 in its first 8 quarters,"
                + " then SPEED less t / 4 (1 at least).");
        int[][] due = {{20, 0, 24}, {20, 7, 24}, {20, 8, 18}, {20, 11, 18}, {20, 12, 17},
            {20, 75, 2}, {20, 76, 1}, {20, 79, 1}, {20, 80, 1}, {20, 99, 1}, {1, 0, 5}, {1, 7, 5},
            {1, 8, 1}, {2, 8, 1}, {3, 8, 1}, {4, 8, 2}, {4, 11, 2}, {4, 12, 1}, {4, 99, 1}};
        for (int[] d : due) {
            Check.due("SPEED " + d[0] + ", t " + d[1],
                    Made.one(2, d[0], 400).pace(0, d[1], 0), d[2]);
        }
    }

    private static void feedNumbers() {
        Check.terms("FEED n (0 .. 40; 0: never):");
        Edges.within(0, 40, 1, "feed", 0, 9);
        StraitSwim s = Made.one(0, 20, 400);
        for (int t = 0; t < 100; t++) {
            Check.due("never at first, t " + t, s.pace(0, t, 0), 20 - t / 6);
        }
        s.feed(0, 1);
        s.feed(0, 0);
        for (int t = 0; t < 100; t++) {
            Check.due("never again, t " + t, s.pace(0, t, 0), 20 - t / 6);
        }
    }

    private static void feedQuarters() {
        Check.terms("in each n-th quarter (t and 1 a multiple of n)");
        int[][] fed = {{1, 0}, {1, 1}, {1, 99}, {2, 1}, {2, 99}, {3, 2}, {3, 98}, {40, 39},
            {40, 79}, {25, 99}, {33, 98}};
        int[][] unfed = {{2, 0}, {2, 2}, {2, 98}, {3, 0}, {3, 1}, {3, 3}, {3, 99}, {40, 0},
            {40, 38}, {40, 40}, {40, 78}, {40, 80}, {25, 98}, {33, 99}};
        for (int[] f : fed) {
            StraitSwim s = Made.one(0, 20, 400);
            s.feed(0, f[0]);
            Check.due("FEED " + f[0] + ", t " + f[1], s.pace(0, f[1], 0), (20 - f[1] / 6) / 2);
        }
        for (int[] u : unfed) {
            StraitSwim s = Made.one(0, 20, 400);
            s.feed(0, u[0]);
            Check.due("FEED " + u[0] + ", not t " + u[1], s.pace(0, u[1], 0), 20 - u[1] / 6);
        }
    }

    private static void feedHalvesPace() {
        Check.terms("it swims half its PACE (cut)");
        int[][] due = {{1, 0}, {2, 1}, {3, 1}, {4, 2}, {19, 9}, {20, 10}};
        for (int[] d : due) {
            StraitSwim s = Made.one(0, d[0], 1);
            s.feed(0, 1);
            Check.due("half of PACE " + d[0], s.pace(0, 0, 0), d[1]);
            s.swim(0, 100, 50, 0, 0);
            Check.due("swum by PACE " + d[0], s.where(1), 1000 * (100 + d[1]) + 50);
        }
        StraitSwim quick = Made.one(2, 1, 1);
        quick.feed(0, 1);
        Check.due("half of a QUICK one's 5", quick.pace(0, 7, 0), 2);
        Check.due("half of its 1", quick.pace(0, 8, 0), 0);
    }

    private static void feedTakesCold() {
        Check.terms("and COLD in all, behind it, is 3 less (0 at least).");
        // One quarter alone: the tide takes it out of the PLACES in the second.
        int[][] behindOne = {{0, 0}, {1, 0}, {2, 0}, {3, 0}, {4, 1}, {5, 2}, {20, 17}};
        for (int[] b : behindOne) {
            StraitSwim s = Made.one(0, 1, 400);
            s.set(0, b[0]);
            s.feed(0, 1);
            s.tide(0, 0, -9, 0);
            Check.due("DRIFTED", s.swim(0, 9, 0, 0, 0), 2);
            Check.due("behind two quarters, one of which counts for COLD", s.ended(2), 2);
            Check.due("CHILL " + b[0], s.ended(3), b[1]);
        }
        StraitSwim s = Made.one(0, 1, 2);
        s.set(0, 4);
        s.feed(0, 1);
        Check.due("LIMIT is looked at behind the feed", s.swim(0, 100, 50, 0, 0), 1);
        Check.due("in quarters", s.ended(2), 2);
        Check.due("with COLD", s.ended(3), 2);
        s.feed(0, 2);
        s.swim(0, 100, 50, 0, 0);
        Check.due("no feed in the first quarter", s.ended(2), 1);
        Check.due("no feed, no less", s.ended(3), 4);
    }

    private static void swimmerNumbers() {
        Check.promise(7, "A SWIMMER: its number.");
        StraitSwim s = new StraitSwim();
        Check.due("the first", s.swimmer(3, 20, 400), 0);
        Check.due("a refused one takes no number", s.swimmer(4, 20, 400), -1);
        Check.due("the second", s.swimmer(0, 1, 1), 1);
        Check.due("SWIMMERS", s.count(0), 2);
    }

    private static void swimmerRefused() {
        Check.promise(7, "-1;");
        for (History h : new History[] {History.NEW, History.SOME, History.FULL}) {
            h.refuses(-1, "swimmer", -1, 9, 9);
            h.refuses(-1, "swimmer", 4, 9, 9);
            h.refuses(-1, "swimmer", 0, 0, 9);
            h.refuses(-1, "swimmer", 0, 21, 9);
            h.refuses(-1, "swimmer", 0, 9, 0);
            h.refuses(-1, "swimmer", 0, 9, 401);
        }
    }

    private static void swimmersAreTen() {
        Check.promise(7, "-2: there are 10.");
        StraitSwim s = new StraitSwim();
        for (int k = 0; k < 9; k++) {
            s.swimmer(0, 1, 1);
        }
        Check.due("the tenth", s.swimmer(0, 1, 1), 9);
        Check.due("the eleventh", s.swimmer(0, 1, 1), -2);
        Check.due("there are ten", s.count(0), 10);
        History.FULL.refuses(-2, "swimmer", 0, 1, 1);
        History.FULL.refuses(-2, "swimmer", 3, 20, 400);
    }

    private static void feedAnswers() {
        Check.promise(8, "FEED of a SWIMMER: the one before.");
        StraitSwim s = Made.one(0, 20, 400);
        s.swimmer(0, 20, 400);
        Check.due("none at first", s.feed(0, 40), 0);
        Check.due("40", s.feed(0, 40), 40);
        Check.due("40 again", s.feed(0, 0), 40);
        Check.due("0", s.feed(0, 1), 0);
        Check.due("of the other", s.feed(1, 0), 0);
    }

    private static void feedRefused() {
        Check.promise(8, "-1.");
        History.SOME.refuses(-1, "feed", 4, 41);
        History.SOME.refuses(-1, "feed", 4, -1);
        History.SOME.refuses(-1, "feed", 5, 1);
        History.SOME.refuses(-1, "feed", -1, 1);
        History.NEW.refuses(-1, "feed", 0, 1);
        History.FULL.refuses(-1, "feed", 10, 1);
    }

    private static void paceLooksAtFeed() {
        Check.promise(9, "PACE (what = 0; FEED looked at)");
        StraitSwim s = Made.one(0, 10, 400);
        s.feed(0, 3);
        Check.due("ahead of the feed", s.pace(0, 1, 0), 10);
        Check.due("in it", s.pace(0, 2, 0), 5);
        Check.due("behind it", s.pace(0, 3, 0), 10);
    }

    private static void coldLooksNotAtFeed() {
        Check.promise(9, "COLD that it gets (1; FEED not looked at)");
        StraitSwim s = Made.one(0, 10, 400);
        s.feed(0, 1);
        Check.due("5, not 2", s.pace(0, 0, 1), 5);
        s.set(0, 0);
        Check.due("0", s.pace(0, 0, 1), 0);
        Check.due("12, not 9", s.pace(0, 99, 1), 12);
    }

    private static void paceQuarters() {
        Check.promise(9, "in its t-th quarter (0 .. 99).");
        Edges.within(0, 99, 1, "pace", 0, 9, 0);
        Edges.within(0, 99, 1, "pace", 0, 9, 1);
        Edges.within(0, 1, 2, "pace", 0, 9, 0);
        Edges.within(0, 4, 0, "pace", 0, 9, 0);
    }

    private static void paceRefused() {
        Check.promise(9, "-1.");
        for (int what = 0; what < 2; what++) {
            History.SOME.refuses(-1, "pace", 0, 100, what);
            History.SOME.refuses(-1, "pace", 0, -1, what);
            History.SOME.refuses(-1, "pace", 5, 0, what);
            History.NEW.refuses(-1, "pace", 0, 0, what);
            History.FULL.refuses(-1, "pace", 10, 0, what);
        }
        History.SOME.refuses(-1, "pace", 0, 0, 2);
        History.SOME.refuses(-1, "pace", 0, 0, -1);
    }
}
