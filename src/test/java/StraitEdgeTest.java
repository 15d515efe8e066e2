/** Edges of the strait: PLACES and CELLS, BANDS and HOURS, and promises 1 to 6. */
public final class StraitEdgeTest {
    public static void main(String[] args) {
        places();
        cellOfAPlace();
        waterAtFirst();
        bands();
        tideNumbers();
        hours();
        clockTurns();
        newObject();
        landRows();
        landColumns();
        landThatChanges();
        landFromAboveTo();
        isLandAnswers();
        isLandOutOfThePlaces();
        tideThatIsAnother();
        tideOfEach();
        tideRefused();
        carriesQuarters();
        carriesNoSuch();
        setAnswers();
        setOutOfRange();
        Check.finish();
    }

    private static void places() {
        Check.terms("PLACES are in tenths: x 0 .. 239, y 0 .. 119, of CELLS of 10 by 10");
        Edges.within(0, 239, 0, "isLand", 9, 50);
        Edges.within(0, 119, 1, "isLand", 9, 50);
        Edges.within(0, 239, 0, "carries", 9, 50, 0, 0);
        Edges.within(0, 119, 1, "carries", 9, 50, 0, 0);
        Edges.within(0, 239, 1, "swim", 0, 9, 50, 0, 0);
        Edges.within(0, 119, 2, "swim", 0, 9, 50, 0, 0);
        Edges.within(0, 239, 1, "best", 0, 9, 50);
        Edges.within(0, 119, 2, "best", 0, 9, 50);
        Edges.within(0, 239, 1, "ends", 0, 9, 50, 0);
        Edges.within(0, 119, 2, "ends", 0, 9, 50, 0);
        Edges.within(0, 239, 0, "ship", 9, 50, 0, 0);
        Edges.within(0, 119, 1, "ship", 9, 50, 0, 0);
    }

    private static void cellOfAPlace() {
        Check.terms("(24 by 12; CELL of a place: x / 10, y / 10).");
        int[][] cells = {{0, 0}, {23, 0}, {0, 11}, {23, 11}, {7, 3}, {3, 7}};
        for (int[] cell : cells) {
            StraitSwim s = new StraitSwim();
            s.land(cell[1], cell[0], cell[0], true);
            for (int dx : new int[] {-1, 0, 9, 10}) {
                for (int dy : new int[] {-1, 0, 9, 10}) {
                    int x = 10 * cell[0] + dx;
                    int y = 10 * cell[1] + dy;
                    boolean out = x < 0 || x > 239 || y < 0 || y > 119;
                    boolean in = dx >= 0 && dx < 10 && dy >= 0 && dy < 10;
                    Check.due("isLand(" + x + ", " + y + ")", s.isLand(x, y),
                            out ? -1 : in ? 1 : 0);
                }
            }
            Check.due("one CELL alone", s.count(1), 1);
        }
    }

    private static void waterAtFirst() {
        Check.terms("CELLS are WATER (at first), or LAND.");
        StraitSwim s = new StraitSwim();
        s.swimmer(0, 1, 1);
        Check.due("WATER at first", s.isLand(50, 50), 0);
        Check.due("a SWIM from WATER", s.swim(0, 50, 50, 0, 0), 1);
        s.land(5, 5, 5, true);
        Check.due("LAND then", s.isLand(50, 50), 1);
        Check.due("no SWIM from LAND", s.swim(0, 50, 50, 0, 0), -4);
        s.land(5, 5, 5, false);
        Check.due("WATER again", s.isLand(50, 50), 0);
        Check.due("a SWIM from WATER again", s.swim(0, 50, 50, 0, 0), 1);
    }

    private static void bands() {
        Check.terms("THE TIDE: for 3 BANDS (y 0 .. 39, 40 .. 79, 80 .. 119)");
        StraitSwim s = new StraitSwim();
        for (int band = 0; band < 3; band++) {
            s.tide(band, 0, band + 1, -band - 1);
        }
        int[][] bandOf = {{0, 0}, {39, 0}, {40, 1}, {79, 1}, {80, 2}, {119, 2}};
        for (int[] b : bandOf) {
            Check.due("east at y " + b[0], Check.carries(s, 0, b[0], 0, 0), b[1] + 1);
            Check.due("north at y " + b[0], Check.carries(s, 239, b[0], 0, 1), -b[1] - 1);
        }
        Edges.within(0, 2, 0, "tide", 0, 0, 3, 3);
    }

    private static void tideNumbers() {
        Check.terms("how far a swimmer is carried in a quarter:"
                + " east, north (-9 .. 9; 0 at first).");
        Edges.within(-9, 9, 2, "tide", 0, 0, 3, 3);
        Edges.within(-9, 9, 3, "tide", 0, 0, 3, 3);
        StraitSwim s = new StraitSwim();
        for (int n : new int[] {-9, 9}) {
            s.tide(2, 11, n, -n);
            Check.due("east as told", Check.carries(s, 0, 119, 44, 0), n);
            Check.due("north as told", Check.carries(s, 0, 119, 44, 1), -n);
        }
        for (int band = 0; band < 3; band++) {
            Check.due("0 at first", new StraitSwim().tide(band, 11, 0, 0), 0);
        }
    }

    private static void hours() {
        Check.terms("and 12 HOURS (of a clock that turns)");
        Edges.within(0, 11, 1, "tide", 0, 0, 3, 3);
        StraitSwim s = new StraitSwim();
        s.tide(1, 11, 5, 0);
        s.tide(1, 0, -5, 0);
        Check.due("the last quarter of HOUR 11", Check.carries(s, 0, 40, 47, 0), 5);
        Check.due("HOUR 0 comes behind it", Check.carries(s, 0, 40, 48, 0), -5);
        Check.due("and HOUR 1 behind that", Check.carries(s, 0, 40, 52, 0), 0);
    }

    private static void clockTurns() {
        Check.terms("HOUR of quarter q (counted on, also above 47): (q / 4) modulo 12.");
        StraitSwim s = new StraitSwim();
        for (int hour = 0; hour < 12; hour++) {
            s.tide(0, hour, hour - 5, 5 - hour);
        }
        for (int q = 0; q < 200; q++) {
            Check.due("east in quarter " + q, Check.carries(s, 0, 0, q, 0), q / 4 % 12 - 5);
            Check.due("north in quarter " + q, Check.carries(s, 0, 39, q, 1), 5 - q / 4 % 12);
        }
    }

    private static void newObject() {
        Check.promise(1, "All WATER, no TIDE, no SWIMMERS.");
        StraitSwim s = new StraitSwim();
        for (int cell = 0; cell < 288; cell++) {
            Check.due("CELL " + cell, s.isLand(cell % 24 * 10 + 9, cell / 24 * 10 + 9), 0);
        }
        for (int when = 0; when < 36; when++) {
            Check.due("east", Check.carries(s, 0, when / 12 * 40, when % 12 * 4, 0), 0);
            Check.due("north", Check.carries(s, 0, when / 12 * 40, when % 12 * 4, 1), 0);
        }
        for (int what = 0; what <= 5; what++) {
            Check.due("count(" + what + ")", s.count(what), 0);
        }
        noSwimmer(0, History.NEW);
        Check.due("the first SWIMMER", s.swimmer(0, 1, 1), 0);
        noSwimmer(5, History.SOME);
        noSwimmer(10, History.FULL);
    }

    /** The first number that no SWIMMER has, and the one below 0, in all calls that take one. */
    private static void noSwimmer(int first, History h) {
        for (int k : new int[] {first, -1}) {
            h.refuses(-1, "feed", k, 1);
            h.refuses(-1, "pace", k, 0, 0);
            h.refuses(-1, "swim", k, 9, 50, 0, 0);
            h.refuses(-1, "best", k, 9, 50);
            h.refuses(-1, "ends", k, 9, 50, 0);
            h.refuses(-1, "turn", k);
            h.refuses(-1, "slot", k, 0, 1, 1);
            h.refuses(-1, "keep", 0, 1, k);
        }
        h.refuses(-1, "order", 0x10 * (first + 1) + 1);
    }

    private static void landRows() {
        Check.promise(2, "CELLS of a row (0 .. 11) from a column to a column");
        Edges.within(0, 11, 0, "land", 5, 3, 5, true);
        for (int row : new int[] {0, 11}) {
            StraitSwim s = new StraitSwim();
            Check.due("the whole row " + row, s.land(row, 0, 23, true), 24);
            for (int other = 0; other < 12; other++) {
                Check.due("in row " + other, s.isLand(0, 10 * other), other == row ? 1 : 0);
                Check.due("at its end", s.isLand(239, 10 * other + 9), other == row ? 1 : 0);
            }
        }
    }

    private static void landColumns() {
        Check.promise(2, "from a column to a column become LAND, or WATER");
        Edges.within(0, 5, 1, "land", 5, 3, 5, true);
        Edges.within(3, 23, 2, "land", 5, 3, 5, true);
        History.SOME.refuses(-1, "land", 5, 24, 24, true);
        History.SOME.refuses(-1, "land", 5, -1, -1, true);
        History.SOME.refuses(-1, "land", 11, -1, 23, false);
        History.SOME.refuses(-1, "land", 11, 0, 24, false);
        StraitSwim s = new StraitSwim();
        s.land(4, 3, 5, true);
        int[] due = {0, 0, 0, 1, 1, 1, 0, 0};
        for (int column = 0; column < due.length; column++) {
            Check.due("column " + column, s.isLand(10 * column, 40), due[column]);
        }
        s.land(4, 4, 4, false);
        Check.due("its WATER", s.isLand(40, 40), 0);
        Check.due("west of it", s.isLand(39, 40), 1);
        Check.due("east of it", s.isLand(50, 40), 1);
    }

    private static void landThatChanges() {
        Check.promise(2, "become LAND, or WATER: how many changed.");
        StraitSwim s = new StraitSwim();
        Check.due("none: WATER that is WATER", s.land(0, 0, 23, false), 0);
        Check.due("the first CELL", s.land(0, 0, 0, true), 1);
        Check.due("the last CELL", s.land(0, 23, 23, true), 1);
        Check.due("those between", s.land(0, 0, 23, true), 22);
        Check.due("none: LAND that is LAND", s.land(0, 0, 23, true), 0);
        Check.due("all of the row", s.land(0, 0, 23, false), 24);
        for (int row = 0; row < 12; row++) {
            Check.due("row " + row, s.land(row, 0, 23, true), 24);
        }
        Check.due("the strait is full", s.count(1), 288);
        Check.due("no more", s.land(11, 0, 23, true), 0);
        Check.due("full still", s.count(1), 288);
    }

    private static void landFromAboveTo() {
        Check.promise(2, "-1 (from above to).");
        Check.due("from is to", new StraitSwim().land(5, 3, 3, true), 1);
        History.SOME.refuses(-1, "land", 5, 4, 3, true);
        History.SOME.refuses(-1, "land", 5, 23, 0, true);
        History.SOME.refuses(-1, "land", 11, 4, 3, false);
        History.SOME.refuses(-1, "land", 5, Integer.MAX_VALUE, Integer.MIN_VALUE, true);
    }

    private static void isLandAnswers() {
        Check.promise(3, "Whether a place is in LAND: 1, 0.");
        StraitSwim s = new StraitSwim();
        s.land(0, 0, 0, true);
        s.land(11, 23, 23, true);
        Check.due("the first place", s.isLand(0, 0), 1);
        Check.due("the last place", s.isLand(239, 119), 1);
        Check.due("the first of the last row", s.isLand(0, 119), 0);
        Check.due("the last of the first row", s.isLand(239, 0), 0);
    }

    private static void isLandOutOfThePlaces() {
        Check.promise(3, "-1.");
        StraitSwim s = new StraitSwim();
        for (int row = 0; row < 12; row++) {
            s.land(row, 0, 23, true);
        }
        int[][] out = {{-1, 0}, {0, -1}, {-9, -9}, {240, 0}, {0, 120}, {239, 120}, {240, 119}};
        for (int[] p : out) {
            Check.due("isLand(" + p[0] + ", " + p[1] + ")", s.isLand(p[0], p[1]), -1);
        }
    }

    private static void tideThatIsAnother() {
        Check.promise(4, "1 if either number is another than before, else 0.");
        StraitSwim s = new StraitSwim();
        Check.due("0, 0 at first", s.tide(1, 5, 0, 0), 0);
        Check.due("east alone", s.tide(1, 5, 1, 0), 1);
        Check.due("as before", s.tide(1, 5, 1, 0), 0);
        Check.due("north alone", s.tide(1, 5, 1, -1), 1);
        Check.due("as before that", s.tide(1, 5, 1, -1), 0);
        Check.due("both", s.tide(1, 5, 0, 0), 1);
        Check.due("of another HOUR", s.tide(1, 6, 0, 0), 0);
        Check.due("of another BAND", s.tide(2, 5, 0, 0), 0);
    }

    private static void tideOfEach() {
        Check.promise(4, "THE TIDE of a BAND and HOUR:");
        StraitSwim s = new StraitSwim();
        for (int when = 0; when < 36; when++) {
            Check.due("told", s.tide(when / 12, when % 12, when % 19 - 9, 9 - when % 19),
                    when == 9 || when == 28 ? 0 : 1);
        }
        for (int when = 0; when < 36; when++) {
            Check.due("east", Check.carries(s, 0, when / 12 * 40 + 39, when % 12 * 4 + 3, 0),
                    when % 19 - 9);
            Check.due("north", Check.carries(s, 0, when / 12 * 40 + 39, when % 12 * 4 + 3, 1),
                    9 - when % 19);
        }
    }

    private static void tideRefused() {
        Check.promise(4, "-1.");
        History.SOME.refuses(-1, "tide", 3, 0, 3, 3);
        History.SOME.refuses(-1, "tide", 0, 12, 3, 3);
        History.SOME.refuses(-1, "tide", 0, 0, 10, 3);
        History.SOME.refuses(-1, "tide", 0, 0, 3, -10);
    }

    private static void carriesQuarters() {
        Check.promise(5, "THE TIDE at a place and quarter (0 .. 199, counted on):"
                + " side 0 east, 1 north.");
        Edges.within(0, 199, 2, "carries", 0, 0, 9, 0);
        Edges.within(0, 1, 3, "carries", 0, 0, 0, 0);
        StraitSwim s = new StraitSwim();
        s.tide(0, 1, 7, -8);
        Check.due("quarter 199 is of HOUR 1", Check.carries(s, 0, 0, 199, 0), 7);
        Check.due("its north", Check.carries(s, 0, 0, 199, 1), -8);
        Check.due("quarter 195 is of HOUR 0", Check.carries(s, 0, 0, 195, 0), 0);
    }

    private static void carriesNoSuch() {
        Check.promise(5, "IllegalArgumentException: no such.");
        long threw = Check.THREW_ARGUMENT;
        for (History h : History.values()) {
            h.refuses(threw, "carries", -1, 0, 0, 0);
            h.refuses(threw, "carries", 240, 0, 0, 0);
            h.refuses(threw, "carries", 0, -1, 0, 0);
            h.refuses(threw, "carries", 0, 120, 0, 0);
            h.refuses(threw, "carries", 0, 0, -1, 0);
            h.refuses(threw, "carries", 0, 0, 200, 0);
            h.refuses(threw, "carries", 0, 0, 0, -1);
            h.refuses(threw, "carries", 0, 0, 0, 2);
        }
    }

    private static void setAnswers() {
        Check.promise(6, "CHILL (what = 0), NEARNESS (1): the number before.");
        Edges.within(0, 1, 0, "set", 0, 9);
        Edges.within(0, 20, 1, "set", 0, 9);
        Edges.within(1, 60, 1, "set", 1, 9);
        StraitSwim s = new StraitSwim();
        Check.due("CHILL 5 at first", s.set(0, 20), 5);
        Check.due("CHILL 20 before", s.set(0, 0), 20);
        Check.due("CHILL 0 before", s.set(0, 0), 0);
        Check.due("NEARNESS 20 at first", s.set(1, 60), 20);
        Check.due("NEARNESS 60 before", s.set(1, 1), 60);
        Check.due("NEARNESS 1 before", s.set(1, 1), 1);
    }

    private static void setOutOfRange() {
        Check.promise(6, "-1.");
        History.SOME.refuses(-1, "set", 0, 21);
        History.SOME.refuses(-1, "set", 0, -1);
        History.SOME.refuses(-1, "set", 0, 60);
        History.SOME.refuses(-1, "set", 1, 0);
        History.SOME.refuses(-1, "set", 1, 61);
        History.SOME.refuses(-1, "set", 2, 1);
        History.SOME.refuses(-1, "set", -1, 1);
    }
}
