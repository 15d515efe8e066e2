import java.util.ArrayList;
import java.util.EnumMap;
import java.util.List;
import java.util.Map;

/** Objects with calls behind them: none, some of each, or so many that nothing more can come. */
enum History {
    NEW, SOME, FULL;

    /** What can be asked of an object, a part of it: all of it is too much for its 512 calls. */
    private interface View {
        void of(StraitSwim s, List<Long> answers);
    }

    private static final View[] VIEWS = {
        History::cells, History::tideAndSwim, History::swimmers, History::strokesAndRelay,
        History::neap, History::shelves};

    private static final Map<History, List<Long>> SEEN = new EnumMap<>(History.class);

    private final List<Calls.Call> calls = new ArrayList<>();

    History() {
        if (ordinal() > 0) {
            boolean full = ordinal() > 1;
            strait();
            swimmers(full ? 10 : 5);
            rows(full);
            call("swim", 1, 80, 20, 2, 1);
            call("keep", 0, 1, 0);
            call("keep", 1, 3, 0);
            call("keep", 2, 4, 0);
            call("make", 3, 4, 3);
            call("keep", 4, 1, 2);
            call("make", 5, 3, 4);
        }
    }

    private void call(String name, Object... args) {
        calls.add(new Calls.Call(name, args));
    }

    private void strait() {
        call("land", 11, 0, 23, true);
        call("tide", 0, 0, 4, -1);
        call("tide", 1, 3, -4, 2);
        call("set", 0, 6);
        call("set", 1, 30);
        call("calm", 0, true);
        call("calm", 2, true);
        call("calm", 3, true);
    }

    private void swimmers(int many) {
        for (int i = 0; i < many; i++) {
            call("swimmer", i % 4, 5 + i, 100 + i);
            call("feed", i, i);
            call("slot", i, i % 2, 1 + i % 4, 65535 - (1 << i));
        }
    }

    private void rows(boolean full) {
        for (int i = 0; i < (full ? 8 : 2); i++) {
            call("ship", 100 + 10 * i, 10 * i, -3, 7 - i);
        }
        for (int i = 0; i < (full ? 60 : 3); i++) {
            call("stroke", 90 - i);
        }
        call("order", 0x321);
        for (int i = 0; i < (full ? 40 : 4); i++) {
            call("turn", i % 3);
        }
    }

    /** Asks all its calls of an object, be it the class or the Model. */
    <T> T on(T fresh) {
        for (Calls.Call call : calls) {
            Calls.answer(fresh, call);
        }
        return fresh;
    }

    StraitSwim made() {
        return on(new StraitSwim());
    }

    /** Asks the call of an object of its own; what it answers, and all that can be seen then. */
    void refuses(long due, String name, Object... args) {
        Calls.Call call = new Calls.Call(name, args);
        String what = this + ": " + call;
        Check.due(what, Calls.answer(made(), call), due);
        List<Long> without = SEEN.computeIfAbsent(this, h -> h.seenBehind(null));
        Check.holds(what + " changes nothing", seenBehind(call).equals(without));
    }

    /** Asks a call that only answers: it must change nothing either. */
    void onlyAnswers(String name, Object... args) {
        Calls.Call call = new Calls.Call(name, args);
        List<Long> without = SEEN.computeIfAbsent(this, h -> h.seenBehind(null));
        Check.holds(this + ": " + call + " changes nothing", seenBehind(call).equals(without));
    }

    private List<Long> seenBehind(Calls.Call call) {
        List<Long> answers = new ArrayList<>();
        for (View view : VIEWS) {
            StraitSwim s = made();
            if (call != null) {
                Calls.answer(s, call);
            }
            view.of(s, answers);
        }
        return answers;
    }

    private static void cells(StraitSwim s, List<Long> answers) {
        for (int cell = 0; cell < 288; cell++) {
            answers.add((long) s.isLand(cell % 24 * 10, cell / 24 * 10));
        }
        for (int what = 0; what < 6; what++) {
            answers.add((long) s.count(what));
        }
    }

    private static void tideAndSwim(StraitSwim s, List<Long> answers) {
        for (int hour = 0; hour < 12; hour++) {
            for (int band = 0; band < 3; band++) {
                answers.add(s.carries(0, 40 * band, 4 * hour, 0));
                answers.add(s.carries(0, 40 * band, 4 * hour, 1));
            }
        }
        for (int what = 0; what < 5; what++) {
            answers.add((long) s.ended(what));
        }
        for (int t = 0; t <= 100; t++) {
            answers.add((long) s.where(t));
        }
        answers.add((long) s.lanes());
        for (int ship = 0; ship < 8; ship++) {
            answers.add((long) s.near(ship));
        }
        answers.add((long) s.set(0, 0));
        answers.add((long) s.set(1, 1));
        ships(s, answers);
    }

    /** From SWIMS all over the strait, so that another place or move of one SHIP would be seen. */
    private static void ships(StraitSwim s, List<Long> answers) {
        s.set(1, 40);
        for (int at = 0; at < 9; at++) {
            answers.add((long) s.swim(0, 20 + at % 3 * 100, 15 + at / 3 * 40, 0, at % 8));
            for (int ship = 0; ship < 8; ship++) {
                answers.add((long) s.near(ship));
            }
        }
    }

    private static void swimmers(StraitSwim s, List<Long> answers) {
        for (int k = 0; k < 10; k++) {
            answers.add((long) s.pace(k, 0, 0));
            answers.add((long) s.pace(k, 20, 1));
            answers.add((long) s.feed(k, 0));
            answers.add((long) s.swim(k, 100, 50, 0, 0));
            answers.add((long) s.ended(2));
            answers.add((long) s.ended(3));
            answers.add((long) s.swim(k, 100, 50, 46, 5));
            answers.add((long) s.ended(0));
            answers.add((long) s.keep(7, 1, k));
            answers.add((long) s.weight(7));
            answers.add((long) s.toss(7));
        }
    }

    private static void strokesAndRelay(StraitSwim s, List<Long> answers) {
        answers.add((long) s.keep(7, 4, 0));
        for (int i = 0; i <= 60; i++) {
            answers.add(Check.element(s, 7, i));
        }
        for (int k = 1; k <= 10; k++) {
            answers.add((long) s.floor(k));
            answers.add((long) s.stop(90, k));
        }
        answers.add((long) s.strokes());
        answers.add((long) s.voided());
        for (int who : new int[] {1, 2, 0, 1, 0}) {
            answers.add((long) s.turn(who));
            answers.add((long) s.voided());
        }
    }

    private static void neap(StraitSwim s, List<Long> answers) {
        answers.add((long) s.done());
        for (int day = 0; day < 16; day++) {
            for (int pilot = 0; pilot < 4; pilot++) {
                answers.add((long) s.goes(day, pilot));
            }
        }
        for (int day = 0; day < 16; day++) {
            answers.add((long) s.calm(day, true));
        }
        for (int day = 0; day < 16; day++) {
            for (int pilot = 0; pilot < 4; pilot++) {
                answers.add((long) s.goes(day, pilot));
            }
        }
        for (int k = 0; k < 10; k++) {
            answers.add((long) s.slot(k, 0, 1, 0));
        }
    }

    private static void shelves(StraitSwim s, List<Long> answers) {
        for (int d = 0; d < 8; d++) {
            answers.add((long) s.weight(d));
            answers.add((long) s.toss(d));
            for (int i = 0; i < 30; i++) {
                answers.add(Check.element(s, d, i));
            }
        }
    }
}
