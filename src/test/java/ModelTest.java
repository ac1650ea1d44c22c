import java.lang.reflect.Method;
import java.util.ArrayList;
import java.util.HashMap;
import java.util.List;
import java.util.Map;
import java.util.Random;

/** Runs of up to 512 calls, drawn with fixed seeds, on EventStore and on Model: each answer must be the same. */
public final class ModelTest {
    private static final int RUNS = 1500;
    /** A program may come behind that many, of at most 15 instructions and a define. */
    private static final int CALLS = 496;
    private static final String[] MIX = {
        // A mix of all calls, then ones that lean to crashes, to projections and to groups.
        "event event event append append append cut flush crash scavenge program program drop work work note form take"
            + " take answer answer tick",
        "event event append append cut cut flush crash crash scavenge scavenge program work work note take answer tick",
        "event append append cut flush scavenge program program drop work work work work note note crash",
        "event event append append cut flush crash scavenge form take take take take answer answer answer tick tick"
    };
    private static final String LOOKS = "position cell group group read next found found total version size size";

    private final Map<String, Method> ofStore = methods(EventStore.class);
    private final Map<String, Method> ofModel = methods(Model.class);
    private final Random random;
    private final EventStore store = new EventStore();
    private final Model model = new Model();
    private final List<String> told = new ArrayList<>();
    private final int crashOneIn;

    private ModelTest(long seed) {
        random = new Random(seed);
        crashOneIn = 1 + random.nextInt(12);
    }

    public static void main(String[] args) throws ReflectiveOperationException {
        for (int seed = 0; seed < RUNS && Due.allWell(); seed++) {
            new ModelTest(seed).run();
        }
        Due.end();
    }

    private static Map<String, Method> methods(Class<?> type) {
        Map<String, Method> byName = new HashMap<>();
        for (Method m : type.getMethods()) {
            if (m.getDeclaringClass() == type) {
                byName.put(m.getName(), m);
            }
        }
        return byName;
    }

    private void run() throws ReflectiveOperationException {
        String[] changes = MIX[random.nextInt(MIX.length)].split(" ");
        String[] looks = LOOKS.split(" ");
        while (told.size() < CALLS && Due.allWell()) {
            boolean change = random.nextInt(5) < 3;
            String name = change ? changes[random.nextInt(changes.length)] : looks[random.nextInt(looks.length)];
            if (name.equals("program")) {
                program();
            } else if (!name.equals("crash") || random.nextInt(crashOneIn) == 0) {
                call(name, arguments(name));
            }
        }
        if (!Due.allWell()) {
            told.forEach(System.out::println);
        }
    }

    private long call(String name, Object... arguments) throws ReflectiveOperationException {
        long want = number(ofModel.get(name).invoke(model, arguments));
        long got = number(ofStore.get(name).invoke(store, arguments));
        String call = name + List.of(arguments);
        told.add(call + " " + got);
        Due.is(call, want, got);
        return got;
    }

    private static long number(Object answer) {
        return answer instanceof Boolean b ? (b ? 1 : 0) : ((Number) answer).longValue();
    }

    /** Mostly a number of the range, sometimes one beside it or far away. */
    private int from(int least, int most) {
        int draw = random.nextInt(60);
        if (draw == 0) {
            return least - 1;
        }
        if (draw == 1) {
            return most + 1;
        }
        if (draw == 2) {
            return random.nextBoolean() ? Integer.MIN_VALUE : Integer.MAX_VALUE;
        }
        return least + random.nextInt(most - least + 1);
    }

    /** A position, mostly near the end of the log. */
    private int place() {
        int end = model.size(0);
        return from(Math.max(0, end - 1 - random.nextInt(50)), end);
    }

    private int value() {
        int draw = random.nextInt(20);
        return draw == 0 ? Integer.MAX_VALUE : draw == 1 ? Integer.MIN_VALUE : draw < 6 ? 0 : random.nextInt(9) - 4;
    }

    private int stream() {
        return random.nextBoolean() ? from(0, 1) : from(0, 4);
    }

    private int versionOf(int s) {
        int events = Math.max(0, model.version(s));
        return from(Math.max(0, events - 6), events);
    }

    private Object[] arguments(String name) {
        int s = stream();
        switch (name) {
            case "event":
                return new Object[] {from(0, 7), value()};
            case "append":
                return new Object[] {s, random.nextInt(3) > 0 ? -2 : versionOf(s) - 1};
            case "cut":
            case "read":
                return new Object[] {s, versionOf(s)};
            case "crash":
                return new Object[] {from(0, 12)};
            case "drop":
            case "note":
            case "position":
                return new Object[] {from(0, 2)};
            case "work":
                return new Object[] {from(0, 2), random.nextBoolean() ? 20 : from(1, 20)};
            case "cell":
                return new Object[] {from(0, 2), s, from(0, 1)};
            case "form":
                return new Object[] {from(0, 1), random.nextBoolean() ? 8 : from(0, 8)};
            case "take":
                return new Object[] {from(0, 1)};
            case "answer":
                return new Object[] {from(0, 1), place(), random.nextInt(3) == 0};
            case "tick":
                return new Object[] {random.nextInt(9) > 0 ? random.nextInt(7) : from(0, 100)};
            case "group":
                return new Object[] {from(0, 1), from(0, 3)};
            case "next":
                return new Object[] {place()};
            case "found":
                return new Object[] {from(0, 5)};
            case "total":
                return new Object[] {from(0, 8), place(), place()};
            case "version":
                return new Object[] {s};
            case "size":
                return new Object[] {from(0, 3)};
            default:
                return new Object[] {};
        }
    }

    /** Drafts a program that is mostly without fault, and defines it. */
    private void program() throws ReflectiveOperationException {
        int length = random.nextInt(20) == 0 ? 15 : 1 + random.nextInt(12);
        boolean wild = random.nextInt(6) == 0;
        int height = 0;
        for (int i = 0; i < length; i++) {
            int op = random.nextInt(14);
            for (int tries = 0; tries < 50 && !wild && !fits(op, height); tries++) {
                op = random.nextInt(4) == 0 ? Stores.EMIT : random.nextInt(14);
            }
            height = Math.max(0, behind(op, height));
            int c = op == Stores.EMIT ? from(0, 39)
                : op == Stores.ZERO || op == Stores.JUMP ? from(i + 1, Math.max(i + 1, length)) : from(0, 1);
            call("code", op, c);
        }
        call("define", from(0, 2));
    }

    private static boolean fits(int op, int height) {
        int takes = op >= Stores.ADD && op <= Stores.LESS ? 2 : op < Stores.ADD || op == Stores.JUMP ? 0 : 1;
        return height >= takes && behind(op, height) <= 4 && op != Stores.END;
    }

    private static int behind(int op, int height) {
        if (op == Stores.JUMP || op == Stores.END) {
            return height;
        }
        return op < Stores.ADD || op == Stores.DUP ? height + 1 : height - 1;
    }
}
