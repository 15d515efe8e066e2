import java.util.ArrayList;
import java.util.List;

/**
 * Every call with every choice of numbers at the edges of their ranges, all at once, in objects
 * that are new, in use and full: each answer is compared with the Model's.
 */
public final class EdgeGridTest {
    private static final int MIN = Integer.MIN_VALUE;
    private static final int MAX = Integer.MAX_VALUE;
    /** As many as an object can take behind its history, within its 512 calls. */
    private static final int CALLS_OF_AN_OBJECT = 300;

    private static final Object[] TRUTHS = {false, true};
    private static final Object[] SWIMMERS = {MIN, -1, 0, 1, 4, 5, 9, 10, MAX};
    private static final Object[] XS = {MIN, -1, 0, 239, 240, MAX};
    private static final Object[] YS = {MIN, -1, 0, 109, 110, 119, 120, MAX};
    private static final Object[] SHELVES = {-1, 0, 1, 2, 3, 4, 5, 6, 7, 8};
    private static final Object[] PLACES = {MIN, -1, 0, 1, 3, 4, 60, MAX};

    public static void main(String[] args) {
        strait();
        swims();
        strokesAndDays();
        shelves();
        Check.finish();
    }

    private static Object[] edges(int least, int most) {
        return new Object[] {MIN, least - 1, least, least + 1, most - 1, most, most + 1, MAX};
    }

    private static void strait() {
        grid("land", edges(0, 11), edges(0, 23), edges(0, 23), TRUTHS);
        grid("isLand", XS, YS);
        grid("tide", edges(0, 2), edges(0, 11), edges(-9, 9), edges(-9, 9));
        grid("carries", XS, YS, edges(0, 199), edges(0, 1));
        grid("set", edges(0, 1), new Object[] {MIN, -1, 0, 1, 20, 21, 60, 61, MAX});
        grid("count", edges(0, 5));
    }

    private static void swims() {
        grid("swimmer", edges(0, 3), edges(1, 20), edges(1, 400));
        grid("feed", SWIMMERS, edges(0, 40));
        grid("pace", SWIMMERS, edges(0, 99), edges(0, 1));
        grid("swim", SWIMMERS, XS, YS, edges(0, 47), edges(0, 7));
        grid("ended", edges(0, 4));
        grid("where", new Object[] {MIN, -1, 0, 1, 2, 14, 15, 16, 17, 99, 100, 101, MAX});
        grid("best", SWIMMERS, XS, YS);
        grid("ends", SWIMMERS, XS, YS, edges(0, 3));
        grid("ship", XS, YS, edges(-20, 20), edges(-20, 20));
        grid("near", new Object[] {MIN, -1, 0, 1, 2, 7, 8, MAX});
        grid("lanes");
    }

    private static void strokesAndDays() {
        grid("stroke", edges(0, 99));
        grid("strokes");
        grid("stop", edges(0, 99), edges(1, 10));
        grid("floor", edges(1, 10));
        grid("order", new Object[] {MIN, -1, 0, 1, 0x11, 0x12, 0x21, 0x51, 0x61, 0xA1, 0xB1, 0xF1,
            0x120, 0x102, 0x543210, 0x54321, 0x654321, 0xA98765, 0x7654321, 0x12345678, MAX});
        grid("turn", SWIMMERS);
        grid("voided");
        grid("calm", edges(0, 15), TRUTHS);
        grid("slot", SWIMMERS, edges(0, 3), edges(1, 4), edges(0, 65535));
        grid("done");
        grid("goes", edges(0, 15), edges(0, 3));
    }

    private static void shelves() {
        grid("keep", SHELVES, new Object[] {MIN, -1, 0, 1, 2, 3, 4, 5, MAX}, SWIMMERS);
        grid("make", SHELVES, new Object[] {MIN, 0, 1, 2, 3, 4, 5, MAX}, edges(0, 60));
        grid("element", SHELVES, PLACES);
        grid("copy", SHELVES, PLACES, SHELVES, PLACES, PLACES);
        grid("weight", SHELVES);
        grid("toss", SHELVES);
    }

    private static void grid(String name, Object[]... choices) {
        List<Calls.Call> calls = new ArrayList<>();
        choose(calls, name, choices, new Object[choices.length], 0);
        for (History h : History.values()) {
            StraitSwim real = null;
            Model model = null;
            for (int i = 0; i < calls.size(); i++) {
                if (i % CALLS_OF_AN_OBJECT == 0) {
                    real = h.made();
                    model = h.on(new Model());
                }
                Calls.Call call = calls.get(i);
                Check.due(h + ", call " + i + ": " + call, Calls.answer(real, call),
                        Calls.answer(model, call));
            }
        }
    }

    private static void choose(List<Calls.Call> calls, String name, Object[][] choices,
            Object[] args, int at) {
        if (at == choices.length) {
            calls.add(new Calls.Call(name, args.clone()));
            return;
        }
        for (Object choice : choices[at]) {
            args[at] = choice;
            choose(calls, name, choices, args, at + 1);
        }
    }
}
