import java.lang.reflect.Method;
import java.util.ArrayList;
import java.util.HashMap;
import java.util.List;
import java.util.Map;

/**
 * Runs of calls told in text, as "event(1, 5); append(0, -2) -> 0": behind the arrow stands the answer that is due,
 * without one the call is only made. Statements end with a semicolon or with the line, and beside the calls there are
 * <ul>
 * <li>"3 * take(0)", the same call three times;
 * <li>"put(2, 1: 5 6) -> 0", which appends events of type 1 with the values 5 and 6 to stream 2, by one call;
 * <li>"fill(9)", which appends so many events of type 0 to stream 0, four by one call;
 * <li>"define(0: PUSH 5, SET 0) -> OK", which drafts a program and defines it.
 * </ul>
 */
final class Story {
    private static final List<String> OPS = List.of("PUSH", "VALUE", "TYPE", "CELL", "ADD", "SUB", "MUL", "LESS",
        "DUP", "SET", "ZERO", "JUMP", "EMIT", "END");
    private static final Map<String, Long> NAMES = Map.ofEntries(
        Map.entry("OK", 0L), Map.entry("BAD", -1L), Map.entry("CONFLICT", -2L), Map.entry("FULL", -3L),
        Map.entry("NONE", -4L), Map.entry("FAULTY", 100L), Map.entry("true", 1L), Map.entry("false", 0L),
        Map.entry("MIN", (long) Integer.MIN_VALUE), Map.entry("MAX", (long) Integer.MAX_VALUE));
    private static final Map<String, Method> METHODS = methods(EventStore.class);
    private static final int CALLS_MAX = 512;

    /** One call; want is empty where the answer is not looked at. */
    record Step(String text, Method method, Object[] arguments, String want) {
    }

    private static final Map<String, List<Step>> KNOWN = new HashMap<>();

    private final EventStore store = new EventStore();
    private int calls = 0;

    /** The public methods of a class by their names. */
    static Map<String, Method> methods(Class<?> type) {
        Map<String, Method> byName = new HashMap<>();
        for (Method m : type.getMethods()) {
            if (m.getDeclaringClass() == type) {
                byName.put(m.getName(), m);
            }
        }
        return byName;
    }

    /** Tells a sentence of the document, and a run on a new object that shows whether it holds. */
    static void tell(String sentence, String... run) {
        new Story().goOn(sentence, String.join("\n", run));
    }

    /** Tells a sentence for each of the numbers 0, 1, .. below a count, which stands as # in the run. */
    static void tellEach(String sentence, int count, String... run) {
        for (int i = 0; i < count; i++) {
            tell(sentence + ": " + i, String.join("\n", run).replace("#", "" + i));
        }
    }

    /** Makes the calls of a run; answers what each of them answered. */
    List<Long> goOn(String sentence, String run) {
        List<Long> answers = new ArrayList<>();
        List<Step> steps = steps(run);
        for (int i = 0; i < steps.size(); i++) {
            Step step = steps.get(i);
            long got = call(step);
            answers.add(got);
            if (!step.want.isEmpty()) {
                Due.is(sentence + ": call " + (i + 1) + ", " + step.text, number(step.want), got);
            }
        }
        if (calls > CALLS_MAX) {
            Due.is(sentence + ": calls", CALLS_MAX, calls);
        }
        return answers;
    }

    private long call(Step step) {
        calls++;
        try {
            return number(step.method.invoke(store, step.arguments));
        } catch (ReflectiveOperationException e) {
            throw new IllegalStateException(step.text, e);
        }
    }

    /** The calls of a run that is told in text. */
    static List<Step> steps(String run) {
        return KNOWN.computeIfAbsent(run, Story::parsed);
    }

    private static List<Step> parsed(String run) {
        List<Step> steps = new ArrayList<>();
        for (String statement : run.split("[;\n]")) {
            if (!statement.isBlank()) {
                addSteps(steps, statement.strip());
            }
        }
        return steps;
    }

    private static void addSteps(List<Step> steps, String statement) {
        String[] sides = statement.split("->");
        String want = sides.length > 1 ? sides[1].strip() : "";
        String[] factors = sides[0].split("\\*");
        String call = factors[factors.length - 1].strip();
        int times = factors.length > 1 ? Integer.parseInt(factors[0].strip()) : 1;
        String name = call.substring(0, call.indexOf('('));
        String inside = call.substring(call.indexOf('(') + 1, call.lastIndexOf(')'));
        for (int i = 0; i < times; i++) {
            if (name.equals("fill")) {
                addFill(steps, Integer.parseInt(inside));
            } else if (name.equals("put")) {
                addPut(steps, inside.split(":"), want);
            } else if (inside.contains(":")) {
                addProgram(steps, inside.split(":"), want);
            } else {
                addCall(steps, name, inside, want);
            }
        }
    }

    private static void addFill(List<Step> steps, int events) {
        for (int i = 0; i < events; i++) {
            addCall(steps, "event", "0, " + i, "");
            if (i % 4 == 3 || i == events - 1) {
                addCall(steps, "append", "0, -2", "");
            }
        }
    }

    private static void addPut(List<Step> steps, String[] parts, String want) {
        String[] place = parts[0].split(",");
        for (String value : parts[1].strip().split(" ")) {
            addCall(steps, "event", place[1] + "," + value, "");
        }
        addCall(steps, "append", place[0] + ", -2", want);
    }

    private static void addProgram(List<Step> steps, String[] parts, String want) {
        for (String instruction : parts[1].split(",")) {
            String[] words = instruction.strip().split(" ");
            addCall(steps, "code", words[0] + ", " + (words.length > 1 ? words[1] : "0"), "");
        }
        addCall(steps, "define", parts[0], want);
    }

    private static void addCall(List<Step> steps, String name, String inside, String want) {
        Method method = METHODS.get(name);
        String[] words = inside.isBlank() ? new String[0] : inside.split(",");
        Object[] arguments = new Object[words.length];
        for (int i = 0; i < words.length; i++) {
            long value = number(words[i].strip());
            boolean isFlag = method.getParameterTypes()[i] == boolean.class;
            arguments[i] = isFlag ? (Object) (value == 1) : (Object) (int) value;
        }
        steps.add(new Step(name + "(" + inside + ")", method, arguments, want));
    }

    /** An answer as a number: a boolean counts 1 or 0. */
    static long number(Object answer) {
        return answer instanceof Boolean b ? (b ? 1 : 0) : ((Number) answer).longValue();
    }

    private static long number(String word) {
        if (word.startsWith("FAULTY+")) {
            return NAMES.get("FAULTY") + Long.parseLong(word.substring("FAULTY+".length()));
        }
        if (OPS.contains(word)) {
            return OPS.indexOf(word);
        }
        return NAMES.containsKey(word) ? NAMES.get(word) : Long.parseLong(word);
    }
}
