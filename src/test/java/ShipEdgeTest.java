/** Edges of SHIPS and of what is NEAR: promises 15 to 17. */
public final class ShipEdgeTest {
    public static void main(String[] args) {
        shipsAsTheyCome();
        shipMoves();
        shipLeavesThePlaces();
        nearBehindTheQuarter();
        nearnessNumbers();
        nearOnEachSide();
        shipNumbers();
        shipRefused();
        shipsAreEight();
        nearFirstQuarter();
        nearInNone();
        nearRefused();
        nearWithoutSwim();
        lanesBits();
        lanesWithoutSwim();
        Check.finish();
    }

    /** Its SWIM from 100, 50 stays there for three quarters, and ends in the third. */
    private static StraitSwim still() {
        StraitSwim s = new StraitSwim();
        s.swimmer(0, 1, 6);
        s.feed(0, 1);
        s.swim(0, 100, 50, 0, 0);
        return s;
    }

    private static int nearOf(StraitSwim s, int x, int y, int east, int north) {
        return s.near(s.ship(x, y, east, north));
    }

    private static void shipsAsTheyCome() {
        Check.terms("SHIPS 0 .. 7 as they come:");
        StraitSwim s = still();
        for (int i = 0; i < 8; i++) {
            Check.due("not yet", s.near(i), -1);
            Check.due("SHIP " + i, s.ship(i % 2 == 0 ? 100 : 0, 50, 0, 0), i);
            Check.due("its own place", s.near(i), i % 2 == 0 ? 0 : -4);
        }
        Check.due("no SHIP 8", s.near(8), -1);
        Check.due("no SHIP -1", s.near(-1), -1);
        Check.due("SHIP 0 as it came", s.near(0), 0);
    }

    private static void shipMoves() {
        Check.terms("at a place at quarter 0 of the SWIM's own count, each quarter moved by"
                + " (-20 .. 20, -20 .. 20).");
        Edges.within(-20, 20, 2, "ship", 9, 9, 0, 0);
        Edges.within(-20, 20, 3, "ship", 9, 9, 0, 0);
        int[][] far = {{20, 0}, {-20, 0}, {0, 20}, {0, -20}, {20, -20}, {-20, 20}};
        for (int[] f : far) {
            StraitSwim s = still();
            s.set(1, 1);
            Check.due("one move away", nearOf(s, 100 - f[0], 50 - f[1], f[0], f[1]), 0);
            Check.due("two moves away", nearOf(s, 100 - 2 * f[0], 50 - 2 * f[1], f[0], f[1]), 1);
        }
        StraitSwim s = still();
        s.swim(0, 100, 50, 47, 0);
        s.set(1, 1);
        Check.due("by the SWIM's own count, from quarter 47 too", nearOf(s, 60, 50, 20, 0), 1);
    }

    private static void shipLeavesThePlaces() {
        Check.terms("each quarter moved by");
        StraitSwim s = new StraitSwim();
        s.swimmer(0, 1, 6);
        s.feed(0, 1);
        s.swim(0, 239, 119, 0, 0);
        int out = s.ship(239, 119, 20, 20);
        Check.due("20 beyond the rim at once", s.near(out), -4);
        s.set(1, 21);
        Check.due("20 beyond the rim, NEARNESS 21", s.near(out), 0);
        StraitSwim back = new StraitSwim();
        back.swimmer(0, 20, 16);
        back.swim(0, 0, 50, 0, 0);
        back.set(1, 1);
        Check.due("a SHIP in LAND moves too", inLand(back), 1);
    }

    private static int inLand(StraitSwim s) {
        s.land(5, 8, 8, true);
        return nearOf(s, 80, 50, -20, 0);
    }

    private static void nearBehindTheQuarter() {
        Check.terms("A SHIP is NEAR in a quarter, if behind it (the SHIP moved so often)");
        StraitSwim s = still();
        s.set(1, 1);
        Check.due("at its place ahead of quarter 0, not behind it", nearOf(s, 100, 50, 1, 0), -4);
        Check.due("behind quarter 0", nearOf(s, 99, 50, 1, 0), 0);
        Check.due("behind the last quarter", nearOf(s, 97, 50, 1, 0), 2);
        Check.due("a quarter too late", nearOf(s, 96, 50, 1, 0), -4);
        StraitSwim drift = new StraitSwim();
        drift.swimmer(0, 10, 400);
        drift.swim(0, 229, 50, 0, 0);
        drift.set(1, 1);
        Check.due("DRIFTED in its second quarter", drift.ended(2), 2);
        Check.due("behind that it is where it was", nearOf(drift, 239, 40, 0, 5), 1);
        Check.due("not where it was ahead of all", nearOf(drift, 229, 50, 0, 0), -4);
        drift.swim(0, 100, 109, 0, 2);
        Check.due("behind quarter 0, to the north", nearOf(drift, 100, 119, 0, 0), 0);
        Check.due("not ahead of it", nearOf(drift, 100, 109, 0, 0), -4);
    }

    private static void nearnessNumbers() {
        Check.terms("less than NEARNESS (1 .. 60; 20 at first) apart");
        Edges.within(1, 60, 1, "set", 1, 9);
        StraitSwim s = still();
        int[][] edges = {{20, 19, 20}, {1, 0, 1}, {60, 59, 60}, {2, 1, 2}};
        for (int[] e : edges) {
            if (e[0] != 20) {
                s.set(1, e[0]);
            }
            Check.due("NEARNESS " + e[0] + ", " + e[1] + " apart",
                    nearOf(s, 100 + e[1], 50, 0, 0), 0);
            Check.due("NEARNESS " + e[0] + ", " + e[2] + " apart",
                    nearOf(s, 100 + e[2], 50, 0, 0), -4);
        }
    }

    private static void nearOnEachSide() {
        Check.terms("both are less than NEARNESS (1 .. 60; 20 at first) apart east and north.");
        int[][] near = {{19, 0}, {-19, 0}, {0, 19}, {0, -19}, {19, 19}, {-19, -19}};
        int[][] not = {{20, 0}, {-20, 0}, {0, 20}, {0, -20}, {20, 19}, {19, 20}, {-20, -19},
            {-19, -20}};
        for (int[] n : near) {
            Check.due("apart " + n[0] + ", " + n[1],
                    nearOf(still(), 100 + n[0], 50 + n[1], 0, 0), 0);
        }
        for (int[] n : not) {
            Check.due("apart " + n[0] + ", " + n[1],
                    nearOf(still(), 100 + n[0], 50 + n[1], 0, 0), -4);
        }
    }

    private static void shipNumbers() {
        Check.promise(15, "A SHIP: its number.");
        StraitSwim s = new StraitSwim();
        Check.due("the first", s.ship(0, 0, -20, -20), 0);
        Check.due("a refused one takes no number", s.ship(240, 0, 0, 0), -1);
        Check.due("the second", s.ship(239, 119, 20, 20), 1);
        Check.due("SHIPS", s.count(2), 2);
    }

    private static void shipRefused() {
        Check.promise(15, "-1;");
        for (History h : History.values()) {
            h.refuses(-1, "ship", -1, 0, 0, 0);
            h.refuses(-1, "ship", 240, 0, 0, 0);
            h.refuses(-1, "ship", 0, -1, 0, 0);
            h.refuses(-1, "ship", 0, 120, 0, 0);
            h.refuses(-1, "ship", 0, 0, -21, 0);
            h.refuses(-1, "ship", 0, 0, 21, 0);
            h.refuses(-1, "ship", 0, 0, 0, -21);
            h.refuses(-1, "ship", 0, 0, 0, 21);
        }
    }

    private static void shipsAreEight() {
        Check.promise(15, "-2: there are 8.");
        StraitSwim s = new StraitSwim();
        for (int i = 0; i < 7; i++) {
            s.ship(0, 0, 0, 0);
        }
        Check.due("the eighth", s.ship(0, 0, 0, 0), 7);
        Check.due("the ninth", s.ship(0, 0, 0, 0), -2);
        Check.due("there are eight", s.count(2), 8);
        History.FULL.refuses(-2, "ship", 0, 0, 0, 0);
        History.FULL.refuses(-2, "ship", 239, 119, -20, 20);
    }

    private static void nearFirstQuarter() {
        Check.promise(16, "The first quarter of the latest SWIM in which a SHIP is NEAR;");
        StraitSwim s = still();
        Check.due("in all three: the first", nearOf(s, 100, 50, 0, 0), 0);
        Check.due("in the last two", nearOf(s, 60, 50, 15, 0), 1);
        Check.due("in the last", nearOf(s, 60, 50, 8, 0), 2);
        StraitSwim longest = new StraitSwim();
        longest.set(0, 0);
        longest.swimmer(0, 1, 400);
        longest.feed(0, 1);
        longest.swim(0, 110, 50, 0, 0);
        longest.set(1, 1);
        Check.due("in the 100th", nearOf(longest, 10, 50, 1, 0), 99);
        Check.due("a quarter too late", nearOf(longest, 9, 50, 1, 0), -4);
        longest.swim(0, 109, 50, 0, 0);
        Check.due("of the latest", longest.near(0), 98);
        longest.swim(0, 109, 50, 48, 0);
        Check.due("a refused one is none", longest.near(0), 98);
    }

    private static void nearInNone() {
        Check.promise(16, "-4: none.");
        StraitSwim s = still();
        Check.due("far away", nearOf(s, 0, 0, 0, 0), -4);
        Check.due("away from it", nearOf(s, 119, 50, 1, 0), -4);
        History.SOME.onlyAnswers("near", 0);
    }

    private static void nearRefused() {
        Check.promise(16, "-1;");
        Edges.within(0, 1, 0, "near", 0);
        for (int ship : new int[] {0, -1, 7, 8}) {
            History.NEW.refuses(-1, "near", ship);
        }
        History.SOME.refuses(-1, "near", 2);
        History.FULL.refuses(-1, "near", 8);
    }

    private static void nearWithoutSwim() {
        Check.promise(16, "-3: there was no SWIM.");
        StraitSwim s = new StraitSwim();
        s.ship(0, 0, 0, 0);
        Check.due("no SWIM", s.near(0), -3);
        s.swimmer(0, 1, 6);
        s.swim(0, 240, 0, 0, 0);
        s.best(0, 0, 0);
        s.ends(0, 0, 0, 0);
        Check.due("none but refused ones, best() and ends()", s.near(0), -3);
        s.swim(0, 0, 0, 0, 0);
        Check.due("a SWIM", s.near(0), 0);
    }

    private static void lanesBits() {
        Check.promise(17, "SHIPS that are NEAR in some quarter of it, as bits.");
        StraitSwim s = still();
        Check.due("no SHIPS", s.lanes(), 0);
        int bits = 0;
        for (int i = 0; i < 8; i++) {
            s.ship(i % 3 == 0 ? 0 : 97, 50, 1, 0);
            bits |= i % 3 == 0 ? 0 : 1 << i;
            Check.due("of " + (i + 1) + " SHIPS", s.lanes(), bits);
        }
        s.set(1, 1);
        Check.due("in the last quarter alone", s.lanes(), bits);
        s.set(1, 60);
        Check.due("the others are too far", s.lanes(), bits);
        s.swim(0, 50, 50, 0, 0);
        Check.due("all of them", s.lanes(), 255);
        s.swim(0, 200, 0, 0, 0);
        Check.due("none of them", s.lanes(), 0);
        History.FULL.onlyAnswers("lanes");
    }

    private static void lanesWithoutSwim() {
        Check.promise(17, "-3.");
        History.NEW.refuses(-3, "lanes");
        StraitSwim s = new StraitSwim();
        s.ship(0, 0, 0, 0);
        Check.due("SHIPS, but no SWIM", s.lanes(), -3);
    }
}
