import java.util.HashSet;
import java.util.Random;
import java.util.Set;

/** Runs of up to 512 calls, drawn with fixed seeds, on EventStore and on Model: each answer must be the same. */
public final class ModelTest {
    private static final int RUNS = 1500;
    /** A program may come behind that many, of at most 15 instructions and a define. */
    private static final int CALLS = 496;
    private static final String[] MIX = {
        // A mix of all calls, then ones that lean to crashes, to projections and to groups.
        "event event event append append append cut flush crash scavenge program program drop work work note form take"
            + " take answer answer tick",
        "event event append append cut cut flush crash crash scavenge scavenge program work work note take answer tick",
        "event append append cut flush scavenge program program drop work work work work note note crash",
        "event event append append cut flush crash scavenge form take take take take answer answer answer tick tick"
    };
    private static final String LOOKS = "position cell group group read next found found total version size size";

    /** The kinds of answers that each call must have given in the runs: what the document names, 0 and more. */
    private static final String KINDS = """
        event 0 more, append BAD CONFLICT FULL 0 more, cut BAD FULL 0 more, flush 0 more, crash BAD 0 more,
        scavenge 0 more, code 0 more, define BAD 0 more, drop BAD NONE 0, work BAD NONE FULL 0 more,
        note BAD NONE 0 more, position BAD NONE 0 more, cell 0 more, form BAD 0 more, take BAD NONE FULL 0 more,
        answer 0 more, tick BAD 0 more, group BAD 0 more, read NONE 0 more, next NONE 0 more, found 0 more,
        total 0 more, version BAD 0 more, size BAD 0 more""";
    private static final String[] REFUSALS = {"BAD", "CONFLICT", "FULL", "NONE"};
    private static final Set<String> SEEN = new HashSet<>();

    private final Random random;
    private final Twin twin = new Twin();
    private final int crashOneIn;

    private ModelTest(long seed) {
        random = new Random(seed);
        crashOneIn = 1 + random.nextInt(12);
    }

    public static void main(String[] args) {
        for (int seed = 0; seed < RUNS && Due.allWell(); seed++) {
            new ModelTest(seed).run();
        }
        for (String kinds : KINDS.split(",")) {
            String[] words = kinds.strip().split(" ");
            for (int i = 1; i < words.length; i++) {
                Due.yes("some " + words[0] + " answered " + words[i], SEEN.contains(words[0] + " " + words[i]));
            }
        }
        Due.end();
    }

    private void run() {
        String[] changes = MIX[random.nextInt(MIX.length)].split(" ");
        String[] looks = LOOKS.split(" ");
        while (twin.calls() < CALLS && Due.allWell()) {
            boolean change = random.nextInt(5) < 3;
            String name = change ? changes[random.nextInt(changes.length)] : looks[random.nextInt(looks.length)];
            if (name.equals("program")) {
                program();
            } else if (!name.equals("crash") || random.nextInt(crashOneIn) == 0) {
                call(name, arguments(name));
            }
        }
        if (!Due.allWell()) {
            twin.print();
        }
    }

    private void call(String name, Object... arguments) {
        long got = twin.call(name, arguments);
        boolean refused = got < 0 && got >= -REFUSALS.length;
        SEEN.add(name + " " + (refused ? REFUSALS[(int) (-1 - got)] : got == 0 ? "0" : "more"));
    }

    /** Mostly a number of the range, sometimes one beside it or far away. */
    private int from(int least, int most) {
        int draw = random.nextInt(60);
        if (draw == 0) {
            return least - 1;
        }
        if (draw == 1) {
            return most + 1;
        }
        if (draw == 2) {
            return random.nextBoolean() ? Integer.MIN_VALUE : Integer.MAX_VALUE;
        }
        return least + random.nextInt(most - least + 1);
    }

    /** A position, mostly near the end of the log. */
    private int place() {
        int end = twin.model().size(0);
        return from(Math.max(0, end - 1 - random.nextInt(50)), end);
    }

    private int value() {
        int draw = random.nextInt(20);
        return draw == 0 ? Integer.MAX_VALUE : draw == 1 ? Integer.MIN_VALUE : draw < 6 ? 0 : random.nextInt(9) - 4;
    }

    private int stream() {
        return random.nextBoolean() ? from(0, 1) : from(0, 4);
    }

    private int versionOf(int s) {
        int events = Math.max(0, twin.model().version(s));
        return from(Math.max(0, events - 6), events);
    }

    private Object[] arguments(String name) {
        int s = stream();
        switch (name) {
            case "event":
                return new Object[] {from(0, 7), value()};
            case "append":
                return new Object[] {s, random.nextInt(3) > 0 ? -2 : versionOf(s) - 1};
            case "cut":
            case "read":
                return new Object[] {s, versionOf(s)};
            case "crash":
                return new Object[] {from(0, 12)};
            case "drop":
            case "note":
            case "position":
                return new Object[] {from(0, 2)};
            case "work":
                return new Object[] {from(0, 2), random.nextBoolean() ? 20 : from(1, 20)};
            case "cell":
                return new Object[] {from(0, 2), s, from(0, 1)};
            case "form":
                return new Object[] {from(0, 1), random.nextBoolean() ? 8 : from(0, 8)};
            case "take":
                return new Object[] {from(0, 1)};
            case "answer":
                return new Object[] {from(0, 1), place(), random.nextInt(3) == 0};
            case "tick":
                return new Object[] {random.nextInt(9) > 0 ? random.nextInt(7) : from(0, 100)};
            case "group":
                return new Object[] {from(0, 1), from(0, 3)};
            case "next":
                return new Object[] {place()};
            case "found":
                return new Object[] {from(0, 5)};
            case "total":
                return new Object[] {from(0, 8), place(), place()};
            case "version":
                return new Object[] {s};
            case "size":
                return new Object[] {from(0, 3)};
            default:
                return new Object[] {};
        }
    }

    /** Drafts a program that is mostly without fault, and defines it. */
    private void program() {
        int length = random.nextInt(20) == 0 ? 15 : 1 + random.nextInt(12);
        boolean wild = random.nextInt(6) == 0;
        int height = 0;
        for (int i = 0; i < length; i++) {
            int op = random.nextInt(14);
            for (int tries = 0; tries < 50 && !wild && !fits(op, height); tries++) {
                op = random.nextInt(4) == 0 ? Stores.EMIT : random.nextInt(14);
            }
            height = Math.max(0, behind(op, height));
            int c = op == Stores.EMIT ? from(0, 39)
                : op == Stores.ZERO || op == Stores.JUMP ? from(i + 1, Math.max(i + 1, length)) : from(0, 1);
            call("code", op, c);
        }
        call("define", from(0, 2));
    }

    private static boolean fits(int op, int height) {
        int takes = op >= Stores.ADD && op <= Stores.LESS ? 2 : op < Stores.ADD || op == Stores.JUMP ? 0 : 1;
        return height >= takes && behind(op, height) <= 4 && op != Stores.END;
    }

    private static int behind(int op, int height) {
        if (op == Stores.JUMP || op == Stores.END) {
            return height;
        }
        return op < Stores.ADD || op == Stores.DUP ? height + 1 : height - 1;
    }
}
