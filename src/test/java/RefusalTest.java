import java.util.ArrayList;
import java.util.List;

/**
 * A refused call changes nothing: two objects with one history, one of them with the refused call
 * behind it, answer all that can be asked alike.
 */
public final class RefusalTest {
    private static final int MIN = Integer.MIN_VALUE;
    private static final int MAX = Integer.MAX_VALUE;

    /** A call that is refused, by name, with what is due and its arguments. */
    private record Refused(String name, long due, Object... args) {
    }

    public static void main(String[] args) {
        for (Refused r : ofRange()) {
            check(r, false);
        }
        for (Refused r : ofState()) {
            check(r, false);
        }
        for (Refused r : ofFullness()) {
            check(r, true);
        }
        for (Refused r : ahead()) {
            StraitSwim s = new StraitSwim();
            Check.due("ahead of all: " + r.name, answer(s, r), r.due);
            Check.holds("ahead of all, nothing changed by " + r.name,
                    all(s).equals(all(new StraitSwim())));
        }
        Check.finish();
    }

    private static void check(Refused r, boolean full) {
        StraitSwim with = history(full);
        StraitSwim without = history(full);
        String what = new Calls.Call(r.name, r.args).toString();
        Check.due(what, answer(with, r), r.due);
        Check.holds("nothing changed by " + what, all(with).equals(all(without)));
    }

    private static long answer(StraitSwim s, Refused r) {
        return Calls.answer(s, new Calls.Call(r.name, r.args));
    }

    private static List<Refused> ofRange() {
        List<Refused> all = new ArrayList<>();
        wrongNumbers(all, "isLand", new int[] {9, 9}, new int[][] {{0, 239}, {0, 119}});
        wrongNumbers(all, "tide", new int[] {0, 0, 3, 3},
                new int[][] {{0, 2}, {0, 11}, {-9, 9}, {-9, 9}});
        wrongNumbers(all, "set", new int[] {0, 9}, new int[][] {{0, 1}, {0, 20}});
        wrongNumbers(all, "set", new int[] {1, 9}, new int[][] {{0, 1}, {1, 60}});
        wrongNumbers(all, "swimmer", new int[] {0, 9, 9},
                new int[][] {{0, 3}, {1, 20}, {1, 400}});
        wrongNumbers(all, "feed", new int[] {0, 9}, new int[][] {{0, 4}, {0, 40}});
        wrongNumbers(all, "pace", new int[] {0, 9, 0}, new int[][] {{0, 4}, {0, 99}, {0, 1}});
        wrongNumbers(all, "swim", new int[] {0, 9, 50, 9, 1},
                new int[][] {{0, 4}, {0, 239}, {0, 119}, {0, 47}, {0, 7}});
        wrongNumbers(all, "ended", new int[] {0}, new int[][] {{0, 4}});
        wrongNumbers(all, "where", new int[] {0}, new int[][] {{0, 100}});
        wrongNumbers(all, "best", new int[] {0, 9, 50}, new int[][] {{0, 4}, {0, 239}, {0, 119}});
        wrongNumbers(all, "ends", new int[] {0, 9, 50, 0},
                new int[][] {{0, 4}, {0, 239}, {0, 119}, {0, 3}});
        wrongNumbers(all, "ship", new int[] {9, 9, 0, 0},
                new int[][] {{0, 239}, {0, 119}, {-20, 20}, {-20, 20}});
        wrongNumbers(all, "near", new int[] {0}, new int[][] {{0, 1}});
        wrongNumbers(all, "stroke", new int[] {9}, new int[][] {{0, 99}});
        wrongNumbers(all, "stop", new int[] {9, 1}, new int[][] {{0, 99}, {1, 10}});
        wrongNumbers(all, "floor", new int[] {1}, new int[][] {{1, 10}});
        wrongNumbers(all, "turn", new int[] {0}, new int[][] {{0, 4}});
        wrongNumbers(all, "slot", new int[] {0, 0, 1, 9},
                new int[][] {{0, 4}, {0, 3}, {1, 4}, {0, 65535}});
        wrongNumbers(all, "goes", new int[] {0, 0}, new int[][] {{0, 15}, {0, 3}});
        wrongNumbers(all, "count", new int[] {0}, new int[][] {{0, 5}});
        wrongNumbers(all, "keep", new int[] {0, 1, 0}, new int[][] {{0, 7}, {0, 4}, {0, 4}});
        wrongNumbers(all, "weight", new int[] {0}, new int[][] {{0, 7}});
        wrongNumbers(all, "toss", new int[] {0}, new int[][] {{0, 7}});
        return all;
    }

    /** Each number in turn just out of its range, and far out, the others as they should be. */
    private static void wrongNumbers(List<Refused> all, String name, int[] right, int[][] ranges) {
        for (int i = 0; i < right.length; i++) {
            for (int wrong : new int[] {ranges[i][0] - 1, ranges[i][1] + 1, MIN, MAX}) {
                Object[] args = new Object[right.length];
                for (int j = 0; j < right.length; j++) {
                    args[j] = j == i ? wrong : right[j];
                }
                all.add(new Refused(name, -1, args));
            }
        }
    }

    private static List<Refused> ofState() {
        return List.of(
                new Refused("land", -1, 12, 0, 1, true), new Refused("land", -1, 0, -1, 1, true),
                new Refused("land", -1, 0, 0, 24, true), new Refused("land", -1, 0, 2, 1, true),
                new Refused("carries", Check.THREW_ARGUMENT, 0, 0, 200, 0),
                new Refused("carries", Check.THREW_ARGUMENT, 0, 120, 0, 0),
                new Refused("swim", -4, 1, 5, 115, 0, 0), new Refused("best", -4, 1, 5, 115),
                new Refused("ends", -4, 1, 5, 115, 0), new Refused("where", -3, 100),
                new Refused("order", -1, 0x1), new Refused("order", -1, 0x1234561),
                new Refused("order", -1, 0x121), new Refused("order", -1, 0x60F),
                new Refused("calm", -1, 16, true),
                new Refused("calm", -1, -1, true), new Refused("keep", -1, 0, 2, 0),
                new Refused("make", -1, 0, 3, 61), new Refused("make", -1, 0, 2, 1),
                new Refused("make", -1, 8, 3, 1), new Refused("make", -14, 0, 3, -1),
                new Refused("element", Check.THREW_ARGUMENT, 8, 0),
                new Refused("element", Check.THREW_STATE, 0, 0),
                new Refused("element", Check.THREW_STATE, 7, 0),
                new Refused("element", Check.THREW_STATE, 2, 9),
                new Refused("copy", -1, 2, 0, 8, 0, 1), new Refused("copy", -1, -1, 0, 3, 0, 1),
                new Refused("copy", -11, 2, 0, 7, 0, 1), new Refused("copy", -12, 2, 0, 0, 0, 1),
                new Refused("copy", -12, 1, 0, 2, 0, 1), new Refused("copy", -13, 2, 0, 3, 0, 9),
                new Refused("copy", -13, 2, 1, 3, 0, 3), new Refused("copy", -13, 2, 0, 3, 0, -1),
                new Refused("copy", -13, 2, 0, 3, 3, 1), new Refused("weight", -11, 7),
                new Refused("weight", -12, 2), new Refused("toss", -11, 7),
                new Refused("toss", -12, 2), new Refused("toss", -15, 0));
    }

    private static List<Refused> ofFullness() {
        return List.of(new Refused("swimmer", -2, 3, 9, 9), new Refused("ship", -2, 9, 9, 1, 1),
                new Refused("stroke", -2, 9), new Refused("turn", -2, 1));
    }

    private static List<Refused> ahead() {
        return List.of(new Refused("ended", -3, 0), new Refused("where", -3, 0),
                new Refused("where", -3, 100), new Refused("where", -1, 101),
                new Refused("near", -1, 0), new Refused("lanes", -3), new Refused("voided", -3),
                new Refused("swim", -1, 0, 0, 0, 0, 0), new Refused("turn", -1, 0));
    }

    private static StraitSwim history(boolean full) {
        StraitSwim s = new StraitSwim();
        s.land(11, 0, 23, true);
        s.tide(0, 0, 4, -1);
        s.tide(1, 3, -4, 2);
        s.set(0, 6);
        s.set(1, 30);
        for (int i = 0; i < (full ? 10 : 5); i++) {
            s.swimmer(i % 4, 5 + i, 100 + i);
            s.feed(i, i);
            s.slot(i, i % 2, 1 + i % 4, 7 << i);
        }
        for (int i = 0; i < (full ? 8 : 2); i++) {
            s.ship(100 + i, 10 * i, -3, i);
        }
        for (int i = 0; i < (full ? 60 : 3); i++) {
            s.stroke(90 - i);
        }
        s.order(0x312);
        for (int i = 0; i < (full ? 40 : 4); i++) {
            s.turn((i + 1) % 3);
        }
        s.calm(0, true);
        s.calm(2, true);
        s.calm(3, true);
        s.swim(1, 80, 20, 2, 1);
        s.keep(0, 1, 0);
        s.keep(1, 3, 0);
        s.keep(2, 4, 0);
        s.make(3, 4, 3);
        s.keep(4, 1, 2);
        return s;
    }

    /** All that can be asked of an object, within its 512 calls; the last ones change it. */
    private static List<Long> all(StraitSwim s) {
        List<Long> answers = new ArrayList<>();
        for (int hour = 0; hour < 12; hour++) {
            answers.add((long) s.isLand(20 * hour, 10 * hour));
            answers.add((long) s.isLand(20 * hour, 115));
            for (int band = 0; band < 3; band++) {
                answers.add(s.carries(0, 40 * band, 4 * hour, 0));
                answers.add(s.carries(0, 40 * band, 4 * hour, 1));
            }
        }
        for (int what = 0; what < 6; what++) {
            answers.add((long) s.count(what));
            answers.add((long) s.ended(what));
        }
        for (int t = 0; t < 30; t++) {
            answers.add((long) s.where(t));
        }
        answers.add((long) s.lanes());
        answers.add((long) s.voided());
        answers.add((long) s.done());
        for (int day = 0; day < 16; day++) {
            answers.add((long) s.goes(day, 0));
            answers.add((long) s.goes(day, 1));
        }
        for (int k = 1; k <= 10; k++) {
            answers.add((long) s.floor(k));
            answers.add((long) s.near(k - 1));
            answers.add((long) s.pace(k - 1, 20, 1));
            answers.add((long) s.pace(k - 1, 3, 0));
        }
        for (int d = 0; d < 8; d++) {
            answers.add((long) s.weight(d));
            answers.add((long) s.toss(d));
            for (int i = 0; i < 5; i++) {
                answers.add(Check.element(s, d, i));
            }
        }
        for (int k = 0; k < 10; k++) {
            answers.add((long) s.feed(k, 0));
        }
        answers.add((long) s.set(0, 0));
        answers.add((long) s.set(1, 1));
        answers.add((long) s.strokes());
        return answers;
    }
}
