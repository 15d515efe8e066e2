/** Objects with the few calls behind them that most tests begin with. */
final class Made {
    private Made() {
    }

    /** SWIMMER 0 alone. */
    static StraitSwim one(int kind, int speed, int limit) {
        StraitSwim s = new StraitSwim();
        s.swimmer(kind, speed, limit);
        return s;
    }

    /**
     * One that the tide alone moves, as half of PACE 1 is 0: without CHILL and with a feed in each
     * quarter its COLD is 315 behind 99 quarters and 324 behind 100.
     */
    static StraitSwim floating(int limit) {
        StraitSwim s = one(0, 1, limit);
        s.set(0, 0);
        s.feed(0, 1);
        return s;
    }

    static StraitSwim withSwimmers(int many) {
        StraitSwim s = new StraitSwim();
        for (int i = 0; i < many; i++) {
            s.swimmer(0, 1, 1);
        }
        return s;
    }

    /** One of each KIND. */
    static StraitSwim withKinds(int speed, int limit) {
        StraitSwim s = new StraitSwim();
        for (int kind = 0; kind < 4; kind++) {
            s.swimmer(kind, speed, limit);
        }
        return s;
    }

    static StraitSwim counted(int... counts) {
        StraitSwim s = new StraitSwim();
        for (int n : counts) {
            s.stroke(n);
        }
        return s;
    }
}
