import java.lang.reflect.InvocationTargetException;
import java.lang.reflect.Method;
import java.util.HashMap;
import java.util.Map;
import java.util.Random;
import java.util.TreeMap;

/** Random calls of the face, by name: mostly in range, often at an edge, sometimes far out. */
final class Calls {
    record Call(String name, Object[] args) {
        @Override
        public String toString() {
            StringBuilder text = new StringBuilder(name).append('(');
            for (int i = 0; i < args.length; i++) {
                text.append(i == 0 ? "" : ", ").append(args[i]);
            }
            return text.append(')').toString();
        }
    }

    /** Least and most of each argument, in pairs; a truth where both are 0 and the type says so. */
    private static final Map<String, int[]> RANGES = new TreeMap<>();

    static {
        RANGES.put("land", new int[] {0, 11, 0, 23, 0, 23, 0, 0});
        RANGES.put("isLand", new int[] {0, 239, 0, 119});
        RANGES.put("tide", new int[] {0, 2, 0, 11, -9, 9, -9, 9});
        RANGES.put("carries", new int[] {0, 239, 0, 119, 0, 199, 0, 1});
        RANGES.put("set", new int[] {0, 1, 0, 60});
        RANGES.put("swimmer", new int[] {0, 3, 1, 20, 1, 400});
        RANGES.put("feed", new int[] {0, 4, 0, 40});
        RANGES.put("pace", new int[] {0, 4, 0, 99, 0, 1});
        RANGES.put("swim", new int[] {0, 4, 0, 239, 0, 119, 0, 47, 0, 7});
        RANGES.put("ended", new int[] {0, 4});
        RANGES.put("where", new int[] {0, 100});
        RANGES.put("best", new int[] {0, 4, 0, 239, 0, 119});
        RANGES.put("ends", new int[] {0, 4, 0, 239, 0, 119, 0, 3});
        RANGES.put("ship", new int[] {0, 239, 0, 119, -20, 20, -20, 20});
        RANGES.put("near", new int[] {0, 7});
        RANGES.put("lanes", new int[] {});
        RANGES.put("stroke", new int[] {0, 99});
        RANGES.put("strokes", new int[] {});
        RANGES.put("stop", new int[] {0, 99, 1, 10});
        RANGES.put("floor", new int[] {1, 10});
        RANGES.put("order", new int[] {0, 0x888888});
        RANGES.put("turn", new int[] {0, 3});
        RANGES.put("voided", new int[] {});
        RANGES.put("calm", new int[] {0, 15, 0, 0});
        RANGES.put("slot", new int[] {0, 9, 0, 3, 1, 4, 0, 65535});
        RANGES.put("done", new int[] {});
        RANGES.put("goes", new int[] {0, 15, 0, 3});
        RANGES.put("count", new int[] {0, 5});
        RANGES.put("keep", new int[] {0, 7, 0, 4, 0, 9});
        RANGES.put("make", new int[] {0, 7, 3, 4, 0, 60});
        RANGES.put("element", new int[] {0, 7, 0, 60});
        RANGES.put("copy", new int[] {0, 7, 0, 30, 0, 7, 0, 30, 0, 30});
        RANGES.put("weight", new int[] {0, 7});
        RANGES.put("toss", new int[] {0, 7});
    }

    private static final Map<String, Class<?>[]> TYPES = new TreeMap<>();
    private static final Map<String, Method> METHODS = new HashMap<>();

    static {
        for (Method m : StraitSwim.class.getDeclaredMethods()) {
            if (RANGES.containsKey(m.getName())) {
                TYPES.put(m.getName(), m.getParameterTypes());
            }
        }
    }

    private Calls() {
    }

    static String[] names() {
        return RANGES.keySet().toArray(new String[0]);
    }

    static Call random(String name, Random random, int wrongInHundred) {
        Class<?>[] types = TYPES.get(name);
        int[] range = RANGES.get(name);
        Object[] args = new Object[types.length];
        for (int i = 0; i < args.length; i++) {
            if (types[i] == boolean.class) {
                args[i] = random.nextInt(3) != 0;
            } else if (name.equals("order")) {
                args[i] = digits(random, wrongInHundred);
            } else if (name.equals("slot") && i == 3 && random.nextInt(4) != 0) {
                args[i] = fewDays(random);
            } else if (isPilot(name, i) && random.nextBoolean()) {
                args[i] = 1;
            } else {
                args[i] = number(random, range[2 * i], range[2 * i + 1], wrongInHundred);
            }
        }
        return new Call(name, args);
    }

    private static int number(Random random, int least, int most, int wrongInHundred) {
        if (random.nextInt(100) < wrongInHundred) {
            int[] wrong = {
                least - 1, most + 1, -1, Integer.MIN_VALUE, Integer.MAX_VALUE, most + 40};
            return wrong[random.nextInt(wrong.length)];
        }
        int at = random.nextInt(12);
        return at == 0 ? least : at == 1 ? most : least + random.nextInt(most - least + 1);
    }

    private static boolean isPilot(String name, int i) {
        return (name.equals("slot") || name.equals("goes")) && i == 1;
    }

    /** A few of the first DAYS, so that SWIMMERS want the same ones. */
    private static int fewDays(Random random) {
        return random.nextInt(256) & random.nextInt(256);
    }

    private static int digits(Random random, int wrongInHundred) {
        if (random.nextInt(100) < wrongInHundred) {
            return random.nextInt();
        }
        int size = 1 + random.nextInt(random.nextInt(4) == 0 ? 7 : 3);
        int digits = 0;
        for (int i = 0; i < size; i++) {
            digits = digits << 4 | 1 + random.nextInt(random.nextInt(4) == 0 ? 10 : 4);
        }
        return digits;
    }

    private static Method method(Class<?> of, String name) throws NoSuchMethodException {
        String key = of.getName() + "." + name;
        Method known = METHODS.get(key);
        if (known == null) {
            known = of.getMethod(name, TYPES.get(name));
            METHODS.put(key, known);
        }
        return known;
    }

    /** The answer; the two exceptions of the face as Check's numbers. Any other ends the test. */
    static long answer(Object of, Call call) {
        try {
            return ((Number) method(of.getClass(), call.name).invoke(of, call.args)).longValue();
        } catch (InvocationTargetException e) {
            if (e.getCause().getClass() == IllegalArgumentException.class) {
                return Check.THREW_ARGUMENT;
            }
            if (e.getCause().getClass() == IllegalStateException.class) {
                return Check.THREW_STATE;
            }
            throw new AssertionError(call + " threw", e.getCause());
        } catch (ReflectiveOperationException e) {
            throw new AssertionError("no call " + call, e);
        }
    }
}
