/** An object's 512 calls: the last of them answers as the first did. */
public final class LongRunTest {
    private static final int CALLS = 512;

    public static void main(String[] args) {
        lastCall();
        dearestCalls();
        refusedCalls();
        Check.finish();
    }

    private static void lastCall() {
        Check.terms("An object is used for at most 512 calls after it has been made;"
                + " what later calls answer is free.");
        StraitSwim s = new StraitSwim();
        for (int call = 0; call < CALLS - 1; call++) {
            Check.due("call " + call, s.land(call % 12, 0, 23, call / 12 % 2 == 0), 24);
        }
        Check.due("the last call", s.count(1), 24 * ((CALLS - 1) % 12));
    }

    private static void dearestCalls() {
        Check.terms("An object is used for at most 512 calls");
        StraitSwim s = new StraitSwim();
        s.set(0, 0);
        s.swimmer(0, 1, 400);
        s.feed(0, 1);
        for (int call = 4; call < CALLS; call += 4) {
            Check.due("best", s.best(0, 100, 50), -4);
            Check.due("ends", s.ends(0, 100, 50, 3), 384);
            Check.due("swim", s.swim(0, 100, 50, call % 48, call % 8), 3);
            Check.due("keep", s.keep(call % 8, 3, 0), 0);
        }
        Check.due("the last call", Check.element(s, 4, 201), 50);
    }

    private static void refusedCalls() {
        Check.terms("after it has been made;");
        StraitSwim s = new StraitSwim();
        for (int call = 1; call < CALLS; call++) {
            Check.due("refused", s.swimmer(4, 1, 1), -1);
        }
        Check.due("the last call", s.swimmer(0, 1, 1), 0);
    }
}
