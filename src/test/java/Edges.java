/** Asks a call at both edges of one of its numbers, the others being as they should be. */
final class Edges {
    private Edges() {
    }

    /** The last that are allowed are not refused; the first that are not, and far ones, are. */
    static void within(int least, int most, int at, String name, Object... right) {
        long refusal = name.equals("carries") || name.equals("element")
                ? Check.THREW_ARGUMENT : -1;
        for (int n : new int[] {least, most}) {
            Calls.Call call = new Calls.Call(name, with(right, at, n));
            Check.holds(call + " is allowed",
                    Calls.answer(History.SOME.made(), call) != refusal);
        }
        int[] wrong = {least - 1, most + 1, Integer.MIN_VALUE, Integer.MAX_VALUE};
        for (int n : wrong) {
            History.SOME.refuses(refusal, name, with(right, at, n));
        }
    }

    private static Object[] with(Object[] right, int at, int n) {
        Object[] args = right.clone();
        args[at] = n;
        return args;
    }
}
