import java.lang.reflect.InvocationTargetException;
import java.lang.reflect.Method;
import java.lang.reflect.Modifier;
import java.util.Arrays;
import java.util.Comparator;
import java.util.Random;
import java.util.Set;

/** Rule 7 of LANGUAGE.md: no call throws, for any arguments in any state, far behind the 512th call too. */
public final class WildTest {
    private static final int OBJECTS = 30;
    private static final int CALLS = 80000;
    private static final int RECORDS_MAX = 2000;
    /** What sets a store back: the rarer the greater the seed, so that some stores stay small and some grow full. */
    private static final Set<String> RARE = Set.of("crash", "drop", "form");
    private static final int[] EDGES = {Integer.MIN_VALUE, Integer.MIN_VALUE + 1, -3, -2, -1, 5, 6, 7, 8, 9, 13, 14, 15,
        20, 21, 39, 40, 41, 100, 101, 1999, 2000, 2001, Integer.MAX_VALUE - 1, Integer.MAX_VALUE};

    public static void main(String[] args) throws IllegalAccessException {
        Method[] methods = Arrays.stream(EventStore.class.getDeclaredMethods())
            .filter(m -> Modifier.isPublic(m.getModifiers()))
            .sorted(Comparator.comparing(Method::getName)).toArray(Method[]::new);
        int full = 0;
        for (int seed = 0; seed < OBJECTS && Due.allWell(); seed++) {
            full += run(methods, new Random(seed), seed) == RECORDS_MAX ? 1 : 0;
        }
        Due.yes("some stores grew full", full > 0);
        Due.end();
    }

    /** Answers how many records there are then. */
    private static int run(Method[] methods, Random random, int seed) throws IllegalAccessException {
        EventStore x = new EventStore();
        for (int i = 0; i < CALLS; i++) {
            Method method = methods[random.nextInt(methods.length)];
            if (!RARE.contains(method.getName()) || random.nextInt(1 + seed * seed) == 0) {
                Object[] arguments = arguments(method, random, x);
                try {
                    method.invoke(x, arguments);
                } catch (InvocationTargetException e) {
                    String call = method.getName() + Arrays.toString(arguments);
                    Due.no("seed " + seed + ", call " + i + ", " + call + " throws " + e.getCause(), true);
                    return 0;
                }
            }
        }
        return x.size(0);
    }

    private static Object[] arguments(Method method, Random random, EventStore x) {
        Object[] arguments = new Object[method.getParameterCount()];
        for (int k = 0; k < arguments.length; k++) {
            boolean isFlag = method.getParameterTypes()[k] == boolean.class;
            arguments[k] = isFlag ? (Object) random.nextBoolean() : (Object) number(random, x.size(0));
        }
        if (method.getName().equals("append") && random.nextBoolean()) {
            arguments[1] = -2;
        } else if (method.getName().equals("cut") && random.nextBoolean()) {
            arguments[1] = x.version((Integer) arguments[0]);
        }
        return arguments;
    }

    /** Mostly one that calls take, sometimes a position or an edge. */
    private static int number(Random random, int records) {
        int draw = random.nextInt(10);
        if (draw == 0) {
            return EDGES[random.nextInt(EDGES.length)];
        }
        return draw == 1 ? records - random.nextInt(8) : random.nextInt(draw < 6 ? 3 : 14);
    }
}
