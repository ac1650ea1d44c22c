import java.util.ArrayList;
import java.util.List;

/**
 * "Calls make their tests in the order in which they are named; what is refused changes nothing." Each call that is
 * refused in a state is made on one of two objects in this state; whatever is called then must answer on both alike.
 */
public final class RefusedTest {
    /** Flushed and unflushed records, a KEPT and a NOTED state, and a group with TAKEN, WAITING and PARKED events. */
    private static final String BASE = "put(0, 1: 10 11 12); put(1, 2: 20); cut(0, 1); flush(); scavenge(); form(0, 8);"
        + "tick(4); define(0: CELL 0, VALUE, ADD, DUP, SET 0, EMIT 24); define(1: CELL 1, PUSH 1, ADD, SET 1);"
        + "put(2, 3: 30 31); put(0, 1: 13); put(4, 7: 40 41); 4 * take(0); answer(0, 6, false); take(0);"
        + "answer(0, 6, false); take(0); answer(0, 6, false); answer(0, 7, false); work(0, 2); note(0); flush();"
        + "tick(2); put(3, 0: 50 51); cut(2, 1); put(0, 5: 14); take(0); take(0); answer(0, 7, false); work(0, 1);"
        + "work(1, 4); note(1); work(1, 1); next(8); tick(1);";
    private static final String DRAFTS = "event(1, 61); event(2, 62); code(PUSH, 3); code(SET, 0);";
    private static final String FULL_DRAFTS = "4 * event(6, 63);" + "code(PUSH, 4); code(SET, 1);".repeat(7);
    /** What is refused in every state of these tests, and the looks, which never change anything. */
    private static final String ALWAYS = """
        event(-1, 7) -> false; event(8, 7) -> false; append(-1, -2) -> BAD; append(5, -2) -> BAD
        cut(-1, 0) -> BAD; cut(5, 0) -> BAD; cut(0, -1) -> BAD; cut(0, 40) -> BAD; crash(-1) -> BAD
        crash(MIN) -> BAD; code(-1, 0) -> false; code(14, 0) -> false; define(-1) -> BAD; define(3) -> BAD
        drop(-1) -> BAD; drop(3) -> BAD; work(-1, 1) -> BAD; work(3, 1) -> BAD; work(0, 0) -> BAD
        work(1, 21) -> BAD; work(2, 1) -> NONE; note(-1) -> BAD; note(3) -> BAD; note(2) -> NONE
        drop(2) -> NONE; position(-1) -> BAD; position(3) -> BAD; position(2) -> NONE; position(0)
        cell(3, 0, 0) -> 0; cell(0, 5, 0) -> 0; cell(0, 0, 2) -> 0; cell(0, 0, 0); form(-1, 0) -> BAD
        form(2, 0) -> BAD; form(0, -1) -> BAD; form(0, 9) -> BAD; form(1, 9) -> BAD; take(-1) -> BAD
        take(2) -> BAD; take(1) -> NONE; answer(-1, 5, true) -> false; answer(2, 5, false) -> false
        answer(1, 5, true) -> false; answer(0, -1, false) -> false; answer(0, 40, true) -> false
        tick(-1) -> BAD; tick(101) -> BAD; tick(0) -> 0; group(-1, 0) -> BAD; group(2, 0) -> BAD
        group(1, 0) -> BAD; group(0, 4) -> BAD; group(0, -1) -> BAD; group(0, 0); read(0, -1) -> NONE
        read(0, 40) -> NONE; read(5, 0) -> NONE; read(-1, 0) -> NONE; read(0, 0) -> NONE; next(40) -> NONE
        next(MAX) -> NONE; found(-1) -> 0; found(6) -> 0; found(3); total(-1, 0, 99) -> 0; total(9, 0, 99) -> 0
        total(8, 0, 99); version(-1) -> BAD; version(5) -> BAD; version(0); size(-1) -> BAD; size(4) -> BAD
        size(0); size(3)
        """;
    private static final String LOOK = looks();
    private static final String WALK = walk();

    private static int twins = 0;

    public static void main(String[] args) {
        theBaseIsBusy();
        always("a new object", "");
        always("a busy one", BASE + DRAFTS);
        always("one with full drafts", BASE + FULL_DRAFTS);
        always("one with empty drafts", BASE);
        events();
        appends();
        cuts();
        crashes();
        programs();
        faultyPrograms();
        projections();
        fullWork();
        groups();
        findings();
        nothingToDo();
        Due.yes("there were twins: " + twins, twins > 100);
        Due.end();
    }

    private static void theBaseIsBusy() {
        Story.tell("the state of these tests", BASE, "size(0) -> 17; size(1) -> 12; size(2) -> 15; size(3) -> 5",
            "position(0) -> 8; position(1) -> 10; group(0, 0) -> 10; group(0, 1) -> 3; group(0, 2) -> 1",
            "group(0, 3) -> 1",
            "found(3) -> 40; crash(99) -> 0; position(0) -> 7; position(1) -> 5; group(0, 0) -> 9; group(0, 2) -> 3");
    }

    private static String looks() {
        StringBuilder looks = new StringBuilder();
        for (int i = -1; i < 6; i++) {
            looks.append("found(" + i + "); version(" + i + "); size(" + i + "); position(" + i + ");");
        }
        for (int i = 0; i < 8; i++) {
            looks.append("group(" + i / 4 + ", " + i % 4 + "); total(" + i + ", 0, MAX);");
        }
        for (int i = 0; i < 30; i++) {
            looks.append("cell(" + i / 10 + ", " + i % 10 / 2 + ", " + i % 2 + ");");
        }
        return looks.toString();
    }

    private static String walk() {
        StringBuilder walk = new StringBuilder();
        for (int at = 0; at < 42; at++) {
            walk.append("next(" + at + "); found(3);");
        }
        return walk.toString();
    }

    /** Runs that bring to light what a state holds; none leaves a new object with more than 512 calls. */
    private static List<String> probes() {
        List<String> probes = new ArrayList<>();
        probes.add(LOOK + WALK);
        probes.add("append(0, -2);" + LOOK + WALK);
        probes.add("5 * event(0, 1); append(4, -2);" + LOOK);
        probes.add("define(2); put(2, 0: 5); work(2, 20); work(2, 20);" + LOOK + "15 * code(END, 0); define(1)");
        probes.add("code(SET, 1); define(2); code(SET, 0); define(2); work(2, 20);" + LOOK);
        for (int k = 0; k < 8; k++) {
            probes.add("crash(" + k + ");" + LOOK + "append(0, -2); define(2); 7 * take(0);" + LOOK);
        }
        probes.add("crash(0); 7 * take(0); tick(3);" + "tick(1);".repeat(9) + "7 * take(0); tick(10);" + LOOK);
        probes.add("flush();" + LOOK + "crash(0);" + LOOK + "7 * take(0); scavenge();" + LOOK);
        probes.add("note(0); note(1); note(2); flush(); crash(0);" + LOOK);
        probes.add("work(0, 20); work(1, 20); work(2, 20);" + LOOK + WALK);
        probes.add("7 * take(0); 7 * take(1);" + "tick(1);".repeat(12) + "7 * take(0); tick(10); 7 * take(0); tick(10);"
            + LOOK);
        probes.add("tick(1);".repeat(12) + LOOK + "7 * take(0);");
        probes.add("answer(0, 5, true); answer(0, 8, false); answer(0, 9, false); answer(0, 6, false);" + LOOK
            + "7 * take(0)");
        probes.add("form(1, 8); 7 * take(1); tick(9); tick(1);" + LOOK);
        probes.add("form(0, 1); 7 * take(0); crash(0);" + LOOK);
        probes.add("scavenge();" + LOOK + "flush(); scavenge();" + LOOK + "12 * cut(0, 0)");
        probes.add("42 * cut(0, 0);" + LOOK);
        probes.add("drop(0); drop(1); drop(2);" + LOOK + "flush(); form(0, 8); scavenge();" + LOOK);
        return probes;
    }

    /** What is called behind a state must answer alike with and without the refused call. */
    private static void refused(String when, String state, String call) {
        same(when + ": " + call, state, state + ";" + call);
    }

    private static void same(String what, String one, String other) {
        twins++;
        for (String probe : probes()) {
            Story first = new Story();
            Story second = new Story();
            first.goOn(what, one);
            second.goOn(what, other);
            List<Long> wants = first.goOn(what, probe);
            List<Long> gots = second.goOn(what, probe);
            if (!wants.equals(gots)) {
                Due.no(what + " changed something that is shown by " + probe, true);
            }
            Due.is(what + ", answers", wants.size(), gots.size());
        }
    }

    private static void always(String when, String state) {
        for (String call : ALWAYS.split("[;\n]")) {
            refused(when, state, call.strip());
        }
    }

    private static void events() {
        refused("a draft of four", BASE + FULL_DRAFTS, "event(0, 9) -> false");
        refused("a draft of four", BASE + FULL_DRAFTS, "event(7, 9) -> false");
        refused("a draft of four", BASE + FULL_DRAFTS, "event(8, 9) -> false");
    }

    /** Stream 0 has five events in this state, stream 1 one, and the log 15 records that aren't REMOVED. */
    private static void appends() {
        String state = BASE + DRAFTS;
        refused("append", state, "version(0) -> 5; append(0, 5) -> CONFLICT");
        refused("append", state, "append(0, 3) -> CONFLICT");
        refused("append", state, "append(0, -1) -> CONFLICT");
        refused("append", state, "append(0, -3) -> CONFLICT");
        refused("append", state, "append(1, -1) -> CONFLICT");
        refused("append with an empty draft", BASE, "append(0, -2) -> BAD; append(0, 4) -> BAD; append(0, 3) -> BAD");
        refused("append with an empty draft", "", "append(0, -2) -> BAD; append(0, -1) -> BAD");
        String room = BASE + "put(1, 0: 1 2 3 4);".repeat(6);
        String none = room + "size(2) -> 39; cut(0, 0);" + DRAFTS;
        refused("append without room", none, "append(0, -2) -> FULL");
        refused("append without room", none, "append(0, 4) -> FULL");
        refused("append without room", none, "append(0, 3) -> CONFLICT");
        refused("append without room", none, "append(5, 3) -> BAD");
        refused("append with room for one", room + DRAFTS, "append(0, -2) -> FULL");
        String three = BASE + "put(1, 0: 1 2);" + "put(1, 0: 1 2 3 4);".repeat(5) + "size(2) -> 37;";
        refused("append with room for three", three + FULL_DRAFTS, "append(4, -2) -> FULL");
    }

    private static void cuts() {
        refused("cut above the events", BASE + DRAFTS, "cut(0, 6) -> BAD");
        refused("cut above the events", BASE + DRAFTS, "cut(1, 2) -> BAD");
        refused("cut above the events", "", "cut(4, 1) -> BAD");
        String none = BASE + "put(1, 0: 1 2 3 4);".repeat(6) + "cut(0, 0); size(2) -> 40;" + DRAFTS;
        refused("cut without room", none, "cut(0, 0) -> FULL");
        refused("cut without room", none, "cut(0, 5) -> FULL");
        refused("cut without room", none, "cut(0, 6) -> BAD");
    }

    private static void crashes() {
        refused("crash", BASE + DRAFTS, "crash(-2) -> BAD; crash(-1) -> BAD");
        refused("crash", BASE + FULL_DRAFTS, "crash(-2147483647) -> BAD");
    }

    private static void programs() {
        refused("a draft of 14", BASE + FULL_DRAFTS, "code(13, 0) -> false");
        refused("a draft of 14", BASE + FULL_DRAFTS, "code(0, 7) -> false");
        refused("a draft of 14", BASE + FULL_DRAFTS, "code(14, 7) -> false");
        refused("define of nothing", BASE, "define(0) -> BAD");
        refused("define of nothing", BASE, "define(2) -> BAD");
        refused("define of nothing", "", "define(1) -> BAD");
        refused("define of a faulty draft", BASE + "code(ADD, 0);", "define(3) -> BAD");
    }

    /** A FAULTY program changes nothing but the draft, which is empty then. */
    private static void faultyPrograms() {
        for (int p = 0; p < 3; p++) {
            same("define of a faulty program", BASE, BASE + "define(" + p + ": ADD) -> FAULTY+0");
            same("define of a faulty program", BASE, BASE + "define(" + p + ": PUSH 7, SET 0, CELL 2) -> FAULTY+2");
            same("define of a faulty program", "", "define(" + p + ": VALUE, ZERO 3, PUSH 1, END) -> FAULTY+3");
        }
    }

    private static void projections() {
        String dropped = BASE + "drop(0); drop(1);" + DRAFTS;
        for (int p = 0; p < 3; p++) {
            refused("without a program", dropped, "drop(" + p + ") -> NONE");
            refused("without a program", dropped, "work(" + p + ", 1) -> NONE");
            refused("without a program", dropped, "work(" + p + ", 20) -> NONE");
            refused("without a program", dropped, "work(" + p + ", 21) -> BAD");
            refused("without a program", dropped, "note(" + p + ") -> NONE");
            refused("without a program", dropped, "position(" + p + ") -> NONE");
            refused("without a program", dropped, "cell(" + p + ", 0, 0) -> 0");
        }
    }

    /** Where nothing was appended for the record, a work that is FULL at once leaves all as it was. */
    private static void fullWork() {
        String none = BASE + "put(1, 0: 1 2 3 4);".repeat(6) + "cut(0, 0); size(2) -> 40;" + DRAFTS;
        refused("work without room", none, "work(0, 1) -> FULL");
        refused("work without room", none, "work(0, 20) -> FULL; work(0, 20) -> FULL");
    }

    private static void groups() {
        refused("never formed", BASE + DRAFTS, "take(1) -> NONE; group(1, 1) -> BAD; answer(1, 8, true) -> false");
        refused("answer for none", BASE + DRAFTS, "answer(0, 7, true) -> false");
        refused("answer for none", BASE + DRAFTS, "answer(0, 6, false) -> false");
        refused("answer for none", BASE + DRAFTS, "answer(0, 4, false) -> false");
        String six = BASE + "form(0, 8) -> 12; put(4, 2: 1 2 3 4); 6 * take(0); group(0, 1) -> 6;" + DRAFTS;
        refused("six are TAKEN", six, "take(0) -> FULL");
        refused("six are TAKEN", six + "tick(9);", "take(0) -> FULL; take(0) -> FULL");
        refused("six are TAKEN", six + "flush(); cut(4, 6);", "take(0) -> FULL");
    }

    private static void findings() {
        refused("read of a HIDDEN one", BASE + DRAFTS, "read(0, 0) -> NONE");
        refused("read of a HIDDEN one", BASE + DRAFTS, "read(2, 0) -> NONE");
        refused("read behind the last", BASE + DRAFTS, "read(0, 5) -> NONE; read(1, 1) -> NONE");
        refused("next behind the last", BASE + DRAFTS + "size(0) -> 17;", "next(17) -> NONE");
    }

    /** Calls that aren't refused, but have nothing to do. */
    private static void nothingToDo() {
        refused("scavenge of nothing", BASE + "scavenge();" + DRAFTS, "scavenge() -> 0");
        refused("work on nothing", BASE + "work(1, 20);" + DRAFTS, "work(1, 20) -> 0; work(1, 1) -> 0");
        refused("take of nothing", BASE + "form(0, 0); 3 * take(0); take(0) -> NONE;" + DRAFTS, "take(0) -> NONE");
        refused("flush twice", BASE + "flush();" + DRAFTS, "flush() -> 0");
        refused("crash twice", BASE + "crash(2); crash(0);", "crash(0) -> 0; crash(5) -> 0");
        refused("note twice", BASE + "note(0); note(1);" + DRAFTS, "note(0); note(1)");
    }
}
