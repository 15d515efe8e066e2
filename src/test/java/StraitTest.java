/** Promises 1 to 6: a new object, the CELLS, THE TIDE and the settings. */
public final class StraitTest {
    public static void main(String[] args) {
        promise1();
        promise2();
        promise3();
        promise4();
        promise5();
        promise6();
        Check.finish();
    }

    private static void promise1() {
        StraitSwim s = new StraitSwim();
        for (int what = 0; what <= 5; what++) {
            Check.due("new: count(" + what + ")", s.count(what), 0);
        }
        for (int x = 0; x < 240; x += 10) {
            Check.due("new: isLand(" + x + ", 119)", s.isLand(x, 119), 0);
        }
        for (int hour = 0; hour < 12; hour++) {
            Check.due("new: carries east", Check.carries(s, 7, 50, 4 * hour, 0), 0);
            Check.due("new: carries north", Check.carries(s, 7, 50, 4 * hour, 1), 0);
        }
        Check.due("new: pace(0, 0, 0)", s.pace(0, 0, 0), -1);
        Check.due("new: set(0, 5)", s.set(0, 5), 5);
        Check.due("new: set(1, 20)", s.set(1, 20), 20);
        Check.due("new: weight(0)", s.weight(0), -11);
    }

    private static void promise2() {
        StraitSwim s = new StraitSwim();
        Check.due("land one", s.land(0, 0, 0, true), 1);
        Check.due("land a whole row", s.land(11, 0, 23, true), 24);
        Check.due("land over some land", s.land(0, 0, 3, true), 3);
        Check.due("water over some land", s.land(0, 2, 5, false), 2);
        Check.due("water on water", s.land(5, 0, 23, false), 0);
        Check.due("CELLS of LAND", s.count(1), 26);
        Check.due("row -1", s.land(-1, 0, 0, true), -1);
        Check.due("row 12", s.land(12, 0, 0, true), -1);
        Check.due("from -1", s.land(1, -1, 0, true), -1);
        Check.due("to 24", s.land(1, 0, 24, true), -1);
        Check.due("from 24", s.land(1, 24, 24, true), -1);
        Check.due("from above to", s.land(1, 3, 2, true), -1);
        Check.due("row far out", s.land(Integer.MAX_VALUE, 0, 0, true), -1);
        Check.due("to far out", s.land(1, 0, Integer.MAX_VALUE, true), -1);
        Check.due("CELLS of LAND as before", s.count(1), 26);
    }

    private static void promise3() {
        StraitSwim s = new StraitSwim();
        s.land(3, 7, 7, true);
        Check.due("its first place", s.isLand(70, 30), 1);
        Check.due("its last place", s.isLand(79, 39), 1);
        Check.due("west of it", s.isLand(69, 30), 0);
        Check.due("east of it", s.isLand(80, 30), 0);
        Check.due("south of it", s.isLand(70, 29), 0);
        Check.due("north of it", s.isLand(70, 40), 0);
        Check.due("x -1", s.isLand(-1, 0), -1);
        Check.due("x 240", s.isLand(240, 0), -1);
        Check.due("y -1", s.isLand(0, -1), -1);
        Check.due("y 120", s.isLand(0, 120), -1);
        Check.due("the last place of all", s.isLand(239, 119), 0);
    }

    private static void promise4() {
        StraitSwim s = new StraitSwim();
        Check.due("as it was", s.tide(0, 0, 0, 0), 0);
        Check.due("both other", s.tide(0, 0, 9, -9), 1);
        Check.due("the same again", s.tide(0, 0, 9, -9), 0);
        Check.due("east other", s.tide(0, 0, 8, -9), 1);
        Check.due("north other", s.tide(0, 0, 8, 9), 1);
        Check.due("last band and hour", s.tide(2, 11, -9, 9), 1);
        Check.due("band -1", s.tide(-1, 0, 0, 0), -1);
        Check.due("band 3", s.tide(3, 0, 0, 0), -1);
        Check.due("hour -1", s.tide(0, -1, 0, 0), -1);
        Check.due("hour 12", s.tide(0, 12, 0, 0), -1);
        Check.due("east 10", s.tide(0, 0, 10, 0), -1);
        Check.due("east -10", s.tide(0, 0, -10, 0), -1);
        Check.due("north 10", s.tide(0, 0, 0, 10), -1);
        Check.due("north -10", s.tide(0, 0, 0, -10), -1);
        Check.due("still as told", s.tide(0, 0, 8, 9), 0);
    }

    private static void promise5() {
        StraitSwim s = new StraitSwim();
        s.tide(0, 0, 1, -1);
        s.tide(1, 0, 2, -2);
        s.tide(2, 11, 3, -3);
        Check.due("first quarter", Check.carries(s, 0, 0, 0, 0), 1);
        Check.due("last of the band", Check.carries(s, 239, 39, 3, 1), -1);
        Check.due("next band", Check.carries(s, 0, 40, 0, 0), 2);
        Check.due("next hour", Check.carries(s, 0, 40, 4, 0), 0);
        Check.due("hour 11", Check.carries(s, 0, 80, 47, 0), 3);
        Check.due("hour 11, 44", Check.carries(s, 0, 119, 44, 1), -3);
        Check.due("hour 10", Check.carries(s, 0, 119, 43, 1), 0);
        Check.due("counted on to 48", Check.carries(s, 0, 0, 48, 0), 1);
        Check.due("counted on to 195", Check.carries(s, 0, 79, 195, 1), -2);
        Check.due("199 is of hour 1", Check.carries(s, 0, 79, 199, 1), 0);
        long threw = Check.THREW_ARGUMENT;
        Check.due("x -1", Check.carries(s, -1, 0, 0, 0), threw);
        Check.due("x 240", Check.carries(s, 240, 0, 0, 0), threw);
        Check.due("y -1", Check.carries(s, 0, -1, 0, 0), threw);
        Check.due("y 120", Check.carries(s, 0, 120, 0, 0), threw);
        Check.due("quarter -1", Check.carries(s, 0, 0, -1, 0), threw);
        Check.due("quarter 200", Check.carries(s, 0, 0, 200, 0), threw);
        Check.due("side -1", Check.carries(s, 0, 0, 0, -1), threw);
        Check.due("side 2", Check.carries(s, 0, 0, 0, 2), threw);
    }

    private static void promise6() {
        StraitSwim s = new StraitSwim();
        Check.due("CHILL 0", s.set(0, 0), 5);
        Check.due("CHILL 20", s.set(0, 20), 0);
        Check.due("CHILL 21", s.set(0, 21), -1);
        Check.due("CHILL -1", s.set(0, -1), -1);
        Check.due("CHILL as before", s.set(0, 5), 20);
        Check.due("NEARNESS 1", s.set(1, 1), 20);
        Check.due("NEARNESS 60", s.set(1, 60), 1);
        Check.due("NEARNESS 0", s.set(1, 0), -1);
        Check.due("NEARNESS 61", s.set(1, 61), -1);
        Check.due("NEARNESS as before", s.set(1, 20), 60);
        Check.due("what 2", s.set(2, 5), -1);
        Check.due("what -1", s.set(-1, 5), -1);
    }
}
