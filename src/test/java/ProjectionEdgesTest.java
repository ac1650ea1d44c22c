/** The boundary cases that promises 8 to 14 name, sentence by sentence; what makes one FAULTY is in CheckedTest. */
public final class ProjectionEdgesTest {
    /** Adds the values of a stream up in its cell 0. */
    private static final String SUM = "CELL 0, VALUE, ADD, SET 0";

    public static void main(String[] args) {
        promise8Ops();
        promise8Draft();
        promise9Bad();
        promise9Draft();
        promise9Faulty();
        promise9NewState();
        promise10();
        promise11Bad();
        promise11None();
        promise11AtMostN();
        promise11AsLongAsThereAreAny();
        promise11Full();
        promise12();
        promise13();
        promise14();
        Due.end();
    }

    private static void promise8Ops() {
        String sentence = "False if op is outside 0..13";
        Story.tell(sentence,
            "code(MIN, 0) -> false; code(-1, 0) -> false; code(14, 0) -> false; code(15, 0) -> false",
            "code(MAX, 0) -> false; define(0) -> BAD");
        Story.tell(sentence, "code(0, 5) -> true; code(13, 0) -> true; define(0) -> OK");
        Story.tellEach(sentence + ", op", 14,
            "code(#, 0) -> true; define(3) -> BAD; code(#, MIN) -> true; code(#, MAX) -> true");
        Story.tell("Adds an instruction: its c is not looked at yet",
            "code(CELL, 2) -> true; code(JUMP, MIN) -> true; code(EMIT, 40) -> true; define(0) -> FAULTY+0");
    }

    private static void promise8Draft() {
        String sentence = "False if it has 14";
        Story.tell(sentence,
            "13 * code(END, 0) -> true; code(END, 0) -> true; code(END, 0) -> false; code(PUSH, 0) -> false",
            "define(0) -> OK; code(END, 0) -> true");
        Story.tell(sentence + ": a refused op does not count",
            "code(14, 0) -> false; code(-1, 0) -> false; 14 * code(END, 0) -> true; code(END, 0) -> false",
            "code(14, 0) -> false");
        Story.tell(sentence + ": a refused define leaves them",
            "14 * code(END, 0); define(3) -> BAD; code(END, 0) -> false; define(0) -> OK");
        Story.tell(sentence + ": a faulty one empties it",
            "14 * code(ADD, 0); define(0) -> FAULTY+0; 14 * code(END, 0) -> true; code(END, 0) -> false");
        Story.tell(sentence + ": a crash empties it",
            "14 * code(END, 0); crash(0); 14 * code(END, 0) -> true; code(END, 0) -> false");
        Story.tell(sentence + ": drop, flush and scavenge do not",
            "define(0: END); code(PUSH, 7); drop(0); flush(); scavenge(); code(SET, 1); define(1) -> OK",
            "put(0, 0: 1); work(1, 1); cell(1, 0, 1) -> 7");
    }

    private static void promise9Bad() {
        String sentence = "BAD if p is outside 0..2 or the draft is empty";
        Story.tell(sentence,
            "code(END, 0); define(MIN) -> BAD; define(-1) -> BAD; define(3) -> BAD; define(MAX) -> BAD",
            "define(0) -> OK; position(0) -> 0");
        Story.tell(sentence, "define(2: END) -> OK; position(2) -> 0; position(1) -> NONE; position(0) -> NONE");
        Story.tell(sentence + ": empty at first, behind each define and behind a FAULTY one",
            "define(0) -> BAD; define(0: END) -> OK; define(0) -> BAD; define(1) -> BAD",
            "define(1: ADD) -> FAULTY+0; define(1) -> BAD; position(1) -> NONE");
        Story.tell(sentence + ": before FAULTY",
            "code(ADD, 0); define(-1) -> BAD; define(3) -> BAD; define(2) -> FAULTY+0; define(2) -> BAD");
        Story.tell(sentence + ": a projection with a program stays as it was",
            "define(0: " + SUM + "); put(0, 0: 5 6); work(0, 1); define(0) -> BAD; position(0) -> 1",
            "cell(0, 0, 0) -> 5; work(0, 1) -> 1; cell(0, 0, 0) -> 11");
    }

    private static void promise9Draft() {
        String sentence = "the draft is empty then in any case but BAD";
        Story.tell(sentence + ": OK", "define(0: PUSH 1) -> OK; code(SET, 0); define(0) -> FAULTY+0");
        Story.tell(sentence + ": FAULTY",
            "define(0: PUSH 1, CELL 2) -> FAULTY+1; code(SET, 0); define(0) -> FAULTY+0; define(0) -> BAD");
        Story.tell(sentence + ": BAD",
            "code(PUSH, 3); define(3) -> BAD; define(-1) -> BAD; code(SET, 0); define(0) -> OK; put(0, 0: 1)",
            "work(0, 1); cell(0, 0, 0) -> 3");
    }

    private static void promise9Faulty() {
        String sentence = "FAULTY + the number of the faulty instruction (the projection stays as it was)";
        Story.tell(sentence + ": the first, the last of 14",
            "define(0: SET 0) -> FAULTY+0",
            "define(0: JUMP 1, JUMP 2, JUMP 3, JUMP 4, JUMP 5, JUMP 6, JUMP 7, JUMP 8, JUMP 9, JUMP 10, JUMP 11,"
            + " JUMP 12, JUMP 13, SET 0) -> FAULTY+13");
        Story.tell(sentence + ": its program, position and cells",
            "define(0: " + SUM + ") -> OK; put(3, 0: 5 6 7); work(0, 1); define(0: VALUE, SET 1, SET 1) -> FAULTY+2",
            "position(0) -> 1; cell(0, 3, 0) -> 5; work(0, 1) -> 1; cell(0, 3, 0) -> 11; cell(0, 3, 1) -> 0");
        Story.tell(sentence + ": its KEPT and NOTED state",
            "define(0: " + SUM + "); put(3, 0: 5 6 7); work(0, 1); note(0); flush(); work(0, 1)",
            "note(0); define(0: SET 0) -> FAULTY+0",
            "size(3) -> 1; flush(); size(3) -> 2; work(0, 1); define(0: ADD) -> FAULTY+0; crash(0)",
            "position(0) -> 2; cell(0, 3, 0) -> 11");
        Story.tell(sentence + ": one without a program has still none",
            "define(1: SET 0) -> FAULTY+0; position(1) -> NONE; drop(1) -> NONE; size(3) -> 0; put(0, 0: 1)",
            "flush(); size(3) -> 1");
        Story.tell(sentence + ": one that was dropped has still none",
            "define(1: END); drop(1); define(1: SET 0) -> FAULTY+0; position(1) -> NONE");
    }

    private static void promise9NewState() {
        String sentence = "Projection p gets the drafted program";
        Story.tellEach(sentence, 3,
            "define(#: PUSH 4, SET 1) -> OK; put(0, 0: 1); work(#, 1) -> 1; cell(#, 0, 1) -> 4");
        Story.tell(sentence + ": and no other",
            "define(0: PUSH 1, SET 0); define(1: PUSH 2, SET 0); define(2: PUSH 3, SET 0); put(0, 0: 1)",
            "define(1: PUSH 9, SET 0)", "work(0, 1); work(1, 1); work(2, 1); cell(0, 0, 0) -> 1; cell(1, 0, 0) -> 9",
            "cell(2, 0, 0) -> 3");
        String others = "define(0: PUSH 1, DUP, SET 0, SET 1); define(1: PUSH 2, DUP, SET 0, SET 1);"
            + "define(2: PUSH 3, DUP, SET 0, SET 1); put(0, 0: 1); put(4, 0: 1); work(0, 1); work(1, 1); work(2, 1);"
            + "note(0); note(1); note(2); flush(); work(0, 1); work(1, 1); work(2, 1);";
        String look = "position(#) -> 2; cell(#, 0, 0) -> $; cell(#, 0, 1) -> $; cell(#, 4, 0) -> $;"
            + "cell(#, 4, 1) -> $; crash(0); position(#) -> 1; cell(#, 0, 0) -> $; cell(#, 0, 1) -> $;"
            + "cell(#, 4, 0) -> 0; cell(#, 4, 1) -> 0";
        for (int p = 0; p < 3; p++) {
            for (int other = 0; other < 3; other++) {
                if (p != other) {
                    Story.tell(sentence + ": " + other + " stays as it was where " + p + " gets one", others,
                        "define(" + p + ": END) -> OK", look.replace("#", "" + other).replace("$", "" + (other + 1)));
                }
            }
        }
        Story.tell(sentence + ": what another program NOTED is gone",
            "define(0: " + SUM + "); put(0, 0: 5 6); work(0, 2)",
            "note(0) -> 2; define(0: " + SUM + ") -> OK; flush(); size(3) -> 0; crash(0); position(0) -> 0",
            "cell(0, 0, 0) -> 0; work(0, 1) -> 1; cell(0, 0, 0) -> 5");
        Story.tell(sentence + ": in place of the one it had, at FLUSHED",
            "define(0: " + SUM + "); put(0, 0: 5 6); work(0, 2); flush(); put(0, 0: 7)",
            "define(0: " + SUM + ") -> OK; position(0) -> 2",
            "cell(0, 0, 0) -> 0; work(0, 9) -> 1; cell(0, 0, 0) -> 7");
    }

    private static void promise10() {
        Story.tell("BAD if p is outside 0..2",
            "define(0: END); define(2: END); drop(MIN) -> BAD; drop(-1) -> BAD; drop(3) -> BAD; drop(MAX) -> BAD",
            "position(0) -> 0; position(2) -> 0", "drop(0) -> OK; drop(2) -> OK");
        Story.tellEach("NONE if it has none", 3,
            "drop(#) -> NONE; define(#: END); drop(#) -> OK; drop(#) -> NONE; position(#) -> NONE",
            "define(#: END) -> OK; drop(#) -> OK");
        Story.tell("Projection p has no program any more",
            "define(0: " + SUM + "); define(1: " + SUM + "); put(0, 0: 5); work(0, 1); work(1, 1)",
            "drop(0) -> OK; position(0) -> NONE",
            "cell(0, 0, 0) -> 0; work(0, 1) -> NONE; note(0) -> NONE; position(1) -> 1; cell(1, 0, 0) -> 5");
        Story.tell("Projection p has no program any more: behind a crash and a flush too",
            "define(0: END); put(0, 0: 5); work(0, 1); note(0); flush(); drop(0); crash(0); position(0) -> NONE",
            "flush(); position(0) -> NONE");
        Story.tell("Projection p has no program any more: what it NOTED goes with it",
            "define(0: " + SUM + "); put(0, 0: 5 6); work(0, 2); note(0); drop(0); define(0: " + SUM + ") -> OK",
            "flush(); size(3) -> 0; crash(0); position(0) -> 0; cell(0, 0, 0) -> 0");
        Story.tell("Projection p has no program any more: what it emitted stays",
            "define(0: VALUE, EMIT 8); put(0, 0: 5); work(0, 1); drop(0); version(1) -> 1; read(1, 0) -> 1",
            "found(4) -> 0");
    }

    private static void promise11Bad() {
        String sentence = "BAD if p is outside 0..2 or n outside 1..20";
        Story.tell(sentence + ": p",
            "define(0: END); define(2: END); put(0, 0: 1); work(MIN, 1) -> BAD; work(-1, 1) -> BAD",
            "work(3, 1) -> BAD; work(MAX, 1) -> BAD", "work(0, 1) -> 1; work(2, 1) -> 1");
        Story.tell(sentence + ": n",
            "define(0: END); fill(24); work(0, MIN) -> BAD; work(0, -1) -> BAD; work(0, 0) -> BAD",
            "work(0, 21) -> BAD; work(0, MAX) -> BAD; position(0) -> 0", "work(0, 1) -> 1; work(0, 2) -> 2",
            "work(0, 20) -> 20; position(0) -> 23; work(0, 19) -> 1");
        Story.tell(sentence + ": before NONE",
            "work(0, 0) -> BAD; work(0, 21) -> BAD; work(3, 1) -> BAD; work(-1, 0) -> BAD; work(0, 1) -> NONE",
            "work(0, 20) -> NONE");
        Story.tell(sentence + ": before FULL",
            "define(0: VALUE, EMIT 0); fill(40); work(0, 0) -> BAD; work(0, 21) -> BAD; work(0, 20) -> FULL");
    }

    private static void promise11None() {
        Story.tellEach("NONE if it has no program", 3,
            "put(0, 0: 1); work(#, 1) -> NONE; define(#: END); position(#) -> 0; work(#, 1) -> 1; drop(#)",
            "work(#, 1) -> NONE");
        Story.tell("NONE if it has no program: others have",
            "define(0: END); define(2: END); put(0, 0: 1); work(1, 1) -> NONE; work(0, 1) -> 1; work(2, 1) -> 1");
    }

    private static void promise11AtMostN() {
        String sentence = "at most n";
        for (int n = 1; n <= 20; n++) {
            for (int there = n - 1; there <= n + 1; there++) {
                int done = Math.min(n, there);
                Story.tell(sentence + ": " + n + " of " + there,
                    "define(0: CELL 1, PUSH 1, ADD, SET 1); fill(" + there + "); work(0, " + n + ") -> " + done,
                    "position(0) -> " + done + "; cell(0, 0, 1) -> " + done);
            }
        }
    }

    private static void promise11AsLongAsThereAreAny() {
        String sentence = "works on records as long as there are any at its position";
        Story.tell(sentence + ": none",
            "define(0: END); work(0, 1) -> 0; work(0, 20) -> 0; position(0) -> 0; put(0, 0: 1); flush()",
            "define(1: END); work(1, 20) -> 0; position(1) -> 1");
        Story.tell(sentence + ": CUTS count",
            "define(0: END); cut(0, 0); put(0, 0: 1); cut(0, 0); work(0, 20) -> 3; position(0) -> 3");
        Story.tell(sentence + ": not only flushed ones",
            "define(0: " + SUM + "); put(0, 0: 1); flush(); put(0, 0: 2); work(0, 20) -> 2; cell(0, 0, 0) -> 3");
        Story.tell(sentence + ": those too that it emits",
            "define(0: TYPE, ZERO 5, PUSH 1, SET 1, END, VALUE, EMIT 9) -> OK", "put(0, 0: 5); work(0, 20) -> 2",
            "version(1) -> 1; cell(0, 1, 1) -> 1");
        Story.tell(sentence + ": without end, so that n ends it",
            "define(0: VALUE, PUSH 1, ADD, EMIT 0) -> OK; put(0, 0: 5); work(0, 20) -> 20; size(0) -> 21",
            "position(0) -> 20; next(20) -> 20; found(3) -> 25");
        Story.tell(sentence + ": those too that another one emits",
            "define(0: VALUE, EMIT 8); define(1: " + SUM + "); put(0, 0: 5); work(0, 1)",
            "work(1, 20) -> 2; cell(1, 1, 0) -> 5");
    }

    private static void promise11Full() {
        String sentence = "Else FULL if it stopped for that, or how many it worked on";
        String emits = "define(0: CELL 0, PUSH 1, ADD, SET 0, VALUE, EMIT 8) -> OK;";
        Story.tell(sentence + ": just not",
            emits, "fill(35); work(0, 5) -> 5; size(2) -> 40; position(0) -> 5; cell(0, 0, 0) -> 5");
        Story.tell(sentence + ": at the last one",
            emits, "fill(35); work(0, 6) -> FULL; size(2) -> 40; position(0) -> 5; cell(0, 0, 0) -> 5");
        Story.tell(sentence + ": at the first one",
            emits, "fill(40); work(0, 1) -> FULL; position(0) -> 0; cell(0, 0, 0) -> 0; work(0, 20) -> FULL",
            "position(0) -> 0");
        Story.tell(sentence + ": n ends it before",
            emits, "fill(39); work(0, 1) -> 1; work(0, 1) -> FULL; position(0) -> 1");
        Story.tell(sentence + ": not where nothing is emitted",
            "define(0: " + SUM + "); fill(40); work(0, 20) -> 20; work(0, 20) -> 20",
            "work(0, 20) -> 0; position(0) -> 40");
        Story.tell(sentence + ": not for a CUT or an event that emits nothing",
            "define(0: TYPE, ZERO 4, VALUE, EMIT 8) -> OK; cut(0, 0); put(0, 0: 1); put(0, 1: 2); fill(37)",
            "size(2) -> 40", "work(0, 20) -> FULL; position(0) -> 2; work(0, 1) -> FULL; position(0) -> 2",
            "size(0) -> 40");
    }

    private static void promise12() {
        Story.tell("note: BAD, NONE likewise",
            "define(0: END); define(2: END); note(MIN) -> BAD; note(-1) -> BAD; note(3) -> BAD; note(MAX) -> BAD",
            "note(1) -> NONE; note(0) -> 0; note(2) -> 0");
        Story.tellEach("note: NONE if it has no program", 3,
            "note(#) -> NONE; define(#: END); note(#) -> 0; drop(#); note(#) -> NONE");
        Story.tell("else its position",
            "put(0, 0: 1); flush(); define(0: END); note(0) -> 1; put(0, 0: 2 3); work(0, 1); note(0) -> 2",
            "work(0, 1); note(0) -> 3; note(0) -> 3");
        Story.tell("The state of projection p as it is now is NOTED: not as it will be",
            "define(0: " + SUM + "); put(1, 0: 5 6 7); work(0, 1); note(0); work(0, 2); flush(); crash(0)",
            "position(0) -> 1; cell(0, 1, 0) -> 5");
        Story.tell("The state of projection p as it is now is NOTED: the last one counts",
            "define(0: " + SUM + "); put(1, 0: 5 6 7); work(0, 1); note(0); work(0, 1); note(0)",
            "work(0, 1); flush(); crash(0)",
            "position(0) -> 2; cell(0, 1, 0) -> 11");
        Story.tell("The state of projection p as it is now is NOTED: nothing is KEPT before a flush",
            "define(0: " + SUM + "); put(1, 0: 5); flush(); work(0, 1); note(0) -> 1; size(3) -> 0",
            "position(0) -> 1; cell(0, 1, 0) -> 5; crash(0); position(0) -> 0; cell(0, 1, 0) -> 0");
        Story.tell("The state of projection p as it is now is NOTED: all of its cells",
            "define(1: VALUE, SET 0, VALUE, PUSH 1, ADD, SET 1); put(0, 0: 10); put(1, 0: 20); put(2, 0: 30)",
            "put(3, 0: 40); put(4, 0: 50)", "work(1, 5); note(1) -> 5; flush(); put(0, 0: 1); put(1, 0: 1)",
            "put(2, 0: 1); put(3, 0: 1); put(4, 0: 1); work(1, 9) -> 5; cell(1, 4, 1) -> 2; crash(0)",
            "cell(1, 0, 0) -> 10; cell(1, 0, 1) -> 11; cell(1, 1, 0) -> 20; cell(1, 1, 1) -> 21",
            "cell(1, 2, 0) -> 30; cell(1, 2, 1) -> 31", "cell(1, 3, 0) -> 40; cell(1, 3, 1) -> 41",
            "cell(1, 4, 0) -> 50; cell(1, 4, 1) -> 51; position(1) -> 5");
        Story.tell("The state of projection p as it is now is NOTED: of no other",
            "define(0: END); define(1: END); put(0, 0: 1); work(0, 1); work(1, 1); note(0); flush(); crash(0)",
            "position(0) -> 1; position(1) -> 0");
    }

    private static void promise13() {
        Story.tell("position: BAD, NONE likewise",
            "define(0: END); define(2: END); position(MIN) -> BAD; position(-1) -> BAD; position(3) -> BAD",
            "position(MAX) -> BAD; position(1) -> NONE; position(0) -> 0; position(2) -> 0");
        Story.tellEach("position: NONE if it has no program", 3,
            "position(#) -> NONE; define(#: END); position(#) -> 0; drop(#); position(#) -> NONE");
        Story.tell("The position of projection p",
            "put(0, 0: 1 2); flush(); define(1: END); position(1) -> 2; put(0, 0: 3); work(1, 1); position(1) -> 3",
            "work(1, 1) -> 0; position(1) -> 3; crash(1); position(1) -> 2");
    }

    private static void promise14() {
        String sentence = "0 if an argument is outside or it has no program";
        String all = "define(#: VALUE, SET 0, VALUE, SET 1); put(0, 0: 10); put(1, 0: 11); put(2, 0: 12);"
            + "put(3, 0: 13); put(4, 0: 14); work(#, 5) -> 5";
        Story.tellEach(sentence, 3,
            "cell(#, 0, 0) -> 0; cell(#, 4, 1) -> 0", all, "cell(#, 0, 0) -> 10; cell(#, 0, 1) -> 10",
            "cell(#, 1, 0) -> 11; cell(#, 2, 0) -> 12; cell(#, 3, 1) -> 13; cell(#, 4, 0) -> 14",
            "cell(#, 4, 1) -> 14", "cell(#, MIN, 0) -> 0; cell(#, -1, 0) -> 0; cell(#, -1, 1) -> 0",
            "cell(#, 5, 0) -> 0; cell(#, 5, 1) -> 0; cell(#, MAX, 0) -> 0", "cell(#, 0, MIN) -> 0",
            "cell(#, 0, -1) -> 0; cell(#, 1, -1) -> 0; cell(#, 0, 2) -> 0; cell(#, 4, 2) -> 0; cell(#, 4, MAX) -> 0",
            "drop(#); cell(#, 0, 0) -> 0; cell(#, 4, 1) -> 0");
        Story.tell(sentence + ": p",
            all.replace("#", "0"), all.replace("#", "1"), all.replace("#", "2"), "cell(MIN, 0, 0) -> 0",
            "cell(-1, 0, 0) -> 0; cell(-1, 4, 1) -> 0; cell(3, 0, 0) -> 0; cell(3, 4, 1) -> 0; cell(MAX, 0, 0) -> 0",
            "cell(2, 4, 1) -> 14");
    }
}
