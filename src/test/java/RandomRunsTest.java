import java.util.HashMap;
import java.util.Map;
import java.util.Random;
import java.util.TreeMap;

/** All promises: random runs of calls, each answer compared with the Model's. */
public final class RandomRunsTest {
    private static final int RUNS = 600;
    private static final int CALLS = 512;
    private static final Map<String, Map<Long, Integer>> SEEN = new TreeMap<>();

    public static void main(String[] args) {
        for (int seed = 1; seed <= RUNS; seed++) {
            run(new Random(seed), seed);
        }
        Check.holds("LANDED was seen", times("swim", 0) > 100);
        Check.holds("PULLED OUT was seen", times("swim", 1) > 100);
        Check.holds("DRIFTED was seen", times("swim", 2) > 100);
        Check.holds("LOST was seen", times("swim", 3) > 10);
        Check.holds("copies of some length were seen", times("copy", 5) > 3);
        if (args.length > 0) {
            SEEN.forEach((name, answers) -> System.out.println(name + " " + answers));
        }
        Check.finish();
    }

    private static int times(String name, long answer) {
        return SEEN.getOrDefault(name, Map.of()).getOrDefault(answer, 0);
    }

    private static void run(Random random, int seed) {
        StraitSwim real = new StraitSwim();
        Model model = new Model();
        String[] names = theme(random);
        int wrong = random.nextInt(3) == 0 ? 10 : 2;
        for (int i = 0; i < CALLS; i++) {
            String name = names[random.nextInt(names.length)];
            if (isDear(name) && random.nextInt(4) != 0) {
                continue;
            }
            Calls.Call call = Calls.random(name, random, wrong);
            long want = Calls.answer(model, call);
            Check.due("seed " + seed + ", call " + i + ": " + call, Calls.answer(real, call), want);
            SEEN.computeIfAbsent(name, k -> new HashMap<>()).merge(want, 1, Integer::sum);
        }
    }

    private static boolean isDear(String name) {
        return name.equals("best") || name.equals("ends");
    }

    /** Some runs keep to a few calls, so that these get further than a mixed run would. */
    private static String[] theme(Random random) {
        switch (random.nextInt(6)) {
            case 0:
                return "swimmer calm slot slot slot slot done goes goes goes goes".split(" ");
            case 1:
                return "swimmer stroke stroke stroke stop floor order turn turn voided count"
                        .split(" ");
            case 2:
                return ("swimmer feed set swim swim ended where pace tide land best ends ship near"
                        + " lanes keep element").split(" ");
            case 3:
                return "swimmer feed swim stroke keep keep make element copy copy weight toss"
                        .split(" ");
            default:
                return Calls.names();
        }
    }
}
