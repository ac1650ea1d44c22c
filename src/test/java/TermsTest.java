/** The sentences of the document's "Terms" that name a boundary case, each with runs of its own. */
public final class TermsTest {
    public static void main(String[] args) {
        constants();
        callsOfOneObject();
        positionsAndVersions();
        hidden();
        removed();
        flushedAtFirst();
        atMost40();
        programLength();
        projectionIsGivenItsProgram();
        working();
        origins();
        workingWhenFull();
        groups();
        returned();
        time();
        low();
        lowOfGroups();
        orderOfTests();
        Due.end();
    }

    private static void constants() {
        Due.is("OK", 0, EventStore.OK);
        Due.is("BAD", -1, EventStore.BAD);
        Due.is("CONFLICT", -2, EventStore.CONFLICT);
        Due.is("FULL", -3, EventStore.FULL);
        Due.is("NONE", -4, EventStore.NONE);
        Due.is("FAULTY", 100, EventStore.FAULTY);
    }

    private static void callsOfOneObject() {
        String sentence = "An object is used for at most 512 calls";
        Story.tell(sentence,
            "508 * size(0) -> 0; event(0, 7) -> true; append(0, -1) -> 0; read(0, 0) -> 0; found(3) -> 7");
        Story.tell(sentence, "form(0, 8) -> 0; put(0, 0: 1) -> 0; take(0) -> 0; 507 * tick(0) -> 0; tick(10) -> 1");
        Story.tell(sentence, "form(0, 8); 508 * tick(100) -> 0; put(0, 0: 1) -> 0; take(0) -> 0");
        Story.tell(sentence, "fill(40); size(0) -> 40; 300 * crash(0); size(0) -> 0; fill(40); 109 * size(2) -> 40",
            "crash(99) -> 0");
        Story.tell(sentence, "511 * scavenge() -> 0; flush() -> 0");
    }

    private static void positionsAndVersions() {
        Story.tell("THE LOG is a list of RECORDS with POSITIONS 0, 1, 2, ..",
            "put(0, 0: 1) -> 0; cut(0, 0) -> 1; put(4, 7: 2 3) -> 2; put(1, 1: 4) -> 4; size(0) -> 5");
        Story.tell("stream 0..4, type 0..7, an int value",
            "event(0, MIN) -> true; event(7, MAX) -> true; append(0, -1) -> 0; event(7, -1) -> true",
            "append(4, -1) -> 2", "next(0) -> 0; found(0) -> 0; found(2) -> 0; found(3) -> MIN", "next(1) -> 1",
            "found(0) -> 0; found(2) -> 7; found(3) -> MAX", "next(2) -> 2; found(0) -> 4; found(2) -> 7",
            "found(3) -> -1");
        String version = "its VERSION is the number of EVENTS of its stream before it";
        Story.tell(version + ": not those of other streams, not CUTS",
            "put(0, 0: 1); put(1, 0: 2 3); cut(0, 0); cut(1, 0); put(0, 0: 4) -> 5",
            "next(0) -> 0; found(1) -> 0; next(1) -> 1; found(1) -> 0; next(2) -> 2; found(1) -> 1",
            "next(3) -> 5; found(1) -> 1; found(0) -> 0");
        Story.tell(version + ": HIDDEN and REMOVED ones too",
            "put(0, 0: 1 2); cut(0, 2); put(0, 0: 3) -> 3; next(0) -> 3; found(1) -> 2",
            "flush(); scavenge() -> 3; put(0, 0: 4) -> 4; next(4) -> 4; found(1) -> 3");
        Story.tell(version + ": emitted ones too, lost ones not",
            "define(0: VALUE, EMIT 8); put(1, 0: 1); put(0, 0: 2); flush(); work(0, 1) -> 1; put(1, 0: 3) -> 3",
            "read(1, 1) -> 2; found(4) -> 0; read(1, 2) -> 3; found(4) -> -1",
            "crash(0) -> 2; put(1, 0: 4) -> 2; read(1, 1) -> 2; found(3) -> 4; read(1, 2) -> NONE");
    }

    private static void hidden() {
        String sentence = "An EVENT is HIDDEN if its version is below that of some CUT of its stream";
        Story.tell(sentence + ": below, at and above it",
            "put(0, 0: 1 2 3 4); cut(0, 2); read(0, 0) -> NONE; read(0, 1) -> NONE; read(0, 2) -> 2",
            "read(0, 3) -> 3");
        Story.tell(sentence + ": of no other stream",
            "put(0, 0: 1 2); put(1, 0: 3 4); put(2, 0: 5); cut(1, 2); read(0, 0) -> 0; read(0, 1) -> 1",
            "read(1, 0) -> NONE; read(1, 1) -> NONE; read(2, 0) -> 4");
        Story.tell(sentence + ": some CUT, not the last one",
            "put(0, 0: 1 2 3); cut(0, 1); cut(0, 2); cut(0, 0); cut(0, 1); read(0, 1) -> NONE; read(0, 2) -> 2");
        Story.tell(sentence + ": a CUT at 0 hides none, one at the number of events all before it",
            "put(0, 0: 1 2); cut(0, 0); read(0, 0) -> 0; cut(0, 2); read(0, 1) -> NONE; put(0, 0: 3)",
            "read(0, 2) -> 4");
        Story.tell(sentence + ": a lost CUT hides none, an older one does still",
            "put(0, 0: 1 2 3); cut(0, 1); flush(); cut(0, 3); crash(0) -> 1; read(0, 0) -> NONE; read(0, 1) -> 1");
        Story.tell(sentence + ": a spared CUT hides",
            "put(0, 0: 1 2 3); flush(); cut(0, 1); cut(0, 3); crash(1) -> 1; read(0, 0) -> NONE; read(0, 1) -> 1");
    }

    private static void removed() {
        String sentence = "Some records are REMOVED; they still count as records, for versions, hiding and ORIGINS";
        String start = "put(0, 0: 1 2 3); cut(0, 2); flush(); scavenge() -> 3; size(2) -> 1";
        Story.tell(sentence + ": as records", start, "size(0) -> 4; size(1) -> 4; put(1, 0: 4) -> 4; next(0) -> 2");
        Story.tell(sentence + ": for versions",
            start, "version(0) -> 3; event(0, 9); append(0, 0) -> CONFLICT; append(0, 2) -> 4; read(0, 3) -> 4",
            "cut(0, 4) -> 5");
        Story.tell(sentence + ": for hiding", start,
            "read(0, 0) -> NONE; read(0, 1) -> NONE; read(0, 2) -> 2; total(8, 0, 9) -> 3; next(0) -> 2",
            "crash(0) -> 0; read(0, 1) -> NONE; total(8, 0, 9) -> 3; form(0, 8) -> 4; cut(0, 1); crash(0) -> 1",
            "read(0, 1) -> NONE; read(0, 2) -> 2; scavenge() -> 0; size(2) -> 1");
    }

    private static void flushedAtFirst() {
        String sentence = "FLUSHED is a number of records, at first 0";
        Story.tell(sentence, "size(1) -> 0; form(0, 8) -> 0; define(0: END) -> OK; position(0) -> 0; size(3) -> 0");
        Story.tell(sentence + ": until something is flushed",
            "fill(5); size(1) -> 0; form(0, 8) -> 0; define(0: END) -> OK", "position(0) -> 0; size(3) -> 0",
            "scavenge() -> 0; crash(0) -> 5; size(0) -> 0; size(1) -> 0");
    }

    private static void atMost40() {
        String sentence = "At most 40 records are there that aren't REMOVED";
        String[] events = {"", "1", "1 2", "1 2 3", "1 2 3 4"};
        for (int n = 1; n <= 4; n++) {
            Story.tell(sentence + ": " + n + " events up to 39",
                "fill(" + (39 - n) + "); put(1, 0: " + events[n] + ") -> " + (39 - n) + "; size(2) -> 39");
            Story.tell(sentence + ": " + n + " events up to 40",
                "fill(" + (40 - n) + "); put(1, 0: " + events[n] + ") -> " + (40 - n) + "; size(2) -> 40");
            Story.tell(sentence + ": " + n + " events up to 41", "fill(" + (41 - n) + "); put(1, 0: " + events[n]
                + ") -> FULL; size(0) -> " + (41 - n) + "; version(1) -> 0");
        }
        Story.tell(sentence + ": a CUT", "fill(38); cut(0, 1) -> 38; cut(0, 2) -> 39; cut(0, 3) -> FULL",
            "size(0) -> 40; read(0, 1) -> NONE; read(0, 2) -> 2");
        Story.tell(sentence + ": an emitted event",
            "define(0: VALUE, EMIT 8); fill(38); work(0, 1) -> 1; work(0, 1) -> 1", "size(2) -> 40",
            "work(0, 1) -> FULL; size(0) -> 40; position(0) -> 2");
        Story.tell(sentence + ": HIDDEN ones count",
            "fill(39); cut(0, 39) -> 39; put(1, 0: 1) -> FULL; flush(); append(1, -2) -> FULL");
        Story.tell(sentence + ": REMOVED ones don't", "fill(38); cut(0, 38); flush(); scavenge() -> 39; size(2) -> 0",
            "fill(40); size(2) -> 40; size(0) -> 79; cut(0, 0) -> FULL");
        Story.tell(sentence + ": lost ones don't", "fill(20); flush(); fill(20); cut(0, 0) -> FULL; crash(7) -> 16",
            "size(2) -> 24; fill(16); size(2) -> 40; cut(0, 0) -> FULL");
        Story.tell("what would make more is FULL: of several events none is appended",
            "fill(38); put(1, 3: 1 2 3) -> FULL; size(0) -> 38; version(1) -> 0; next(38) -> NONE",
            "total(3, 0, 99) -> 0");
    }

    private static void programLength() {
        String sentence = "A PROGRAM is a list of 1 to 14 instructions";
        String pushSet = "code(PUSH, 1) -> true; code(SET, 0) -> true;";
        Story.tell(sentence + ": none", "define(0) -> BAD; position(0) -> NONE");
        Story.tell(sentence + ": one", "define(0: PUSH 1) -> OK; position(0) -> 0; put(0, 0: 1); work(0, 1) -> 1");
        Story.tell(sentence + ": 13", pushSet.repeat(6), "code(END, 0) -> true; define(0) -> OK");
        Story.tell(sentence + ": 14, and the last of them runs", pushSet.repeat(6), "code(PUSH, 5) -> true",
            "code(SET, 1) -> true; code(END, 0) -> false; define(0) -> OK",
            "put(3, 0: 1); work(0, 1) -> 1; cell(0, 3, 0) -> 1; cell(0, 3, 1) -> 5");
        Story.tell(sentence + ": what is refused as the 15th is not in it", pushSet.repeat(7),
            "code(ADD, 0) -> false; code(CELL, 9) -> false; define(2) -> OK; define(2) -> BAD");
        Story.tell("The program ends at END", "define(0: PUSH 1, SET 0, END, PUSH 2, SET 0) -> OK; put(0, 0: 1)",
            "work(0, 1) -> 1; cell(0, 0, 0) -> 1");
        Story.tell("or behind its last instruction: not in what a longer program left there",
            "define(0: PUSH 1, SET 0, PUSH 2, SET 1) -> OK; define(0: PUSH 3, SET 0) -> OK; put(0, 0: 1)",
            "work(0, 1) -> 1; cell(0, 0, 0) -> 3; cell(0, 0, 1) -> 0");
    }

    private static void projectionIsGivenItsProgram() {
        String sentence = "A projection is given its program with all cells 0 and position FLUSHED";
        Story.tell(sentence + ": FLUSHED 0", "put(0, 0: 1 2); define(0: END) -> OK; position(0) -> 0");
        Story.tell(sentence + ": below the end",
            "put(0, 0: 1 2); flush(); put(0, 0: 3); define(1: END) -> OK; position(1) -> 2");
        Story.tell(sentence + ": at the end",
            "put(0, 0: 1 2); flush(); define(2: END) -> OK; position(2) -> 2; work(2, 1) -> 0");
        Story.tell(sentence + ": all cells", "define(1: PUSH 1, SET 0, PUSH 2, SET 1) -> OK",
            "put(0, 0: 1); put(1, 0: 1); put(2, 0: 1); put(3, 0: 1); put(4, 0: 1); work(1, 5) -> 5",
            "cell(1, 0, 0) -> 1; cell(1, 4, 1) -> 2; define(1: END) -> OK; position(1) -> 0",
            "cell(1, 0, 0) -> 0; cell(1, 0, 1) -> 0; cell(1, 1, 0) -> 0; cell(1, 1, 1) -> 0; cell(1, 2, 0) -> 0",
            "cell(1, 2, 1) -> 0; cell(1, 3, 0) -> 0; cell(1, 3, 1) -> 0; cell(1, 4, 0) -> 0; cell(1, 4, 1) -> 0");
        Story.tell("which is its KEPT state too",
            "put(0, 0: 1 2); flush(); put(0, 0: 3); define(0: PUSH 1, SET 0); size(3) -> 2; flush(); size(3) -> 2",
            "work(0, 1) -> 1; cell(0, 0, 0) -> 1; crash(0) -> 0; position(0) -> 2; cell(0, 0, 0) -> 0");
        Story.tell("which is its KEPT state too: in place of what another program kept",
            "define(0: PUSH 1, SET 0); put(0, 0: 1 2); work(0, 2); note(0) -> 2; flush(); put(0, 0: 3); flush()",
            "size(3) -> 2", "define(0: END) -> OK; size(3) -> 3; crash(0); position(0) -> 3; cell(0, 0, 0) -> 0");
    }

    private static void working() {
        Story.tell("WORKING on a record: for a CUT nothing",
            "define(0: PUSH 1, SET 0, PUSH 1, EMIT 0) -> OK; cut(0, 0); work(0, 20) -> 1; cell(0, 0, 0) -> 0",
            "size(0) -> 1", "position(0) -> 1");
        Story.tell("For an EVENT (HIDDEN ones too) the program runs",
            "define(0: CELL 0, VALUE, ADD, SET 0) -> OK; put(0, 0: 5 6); cut(0, 1); cut(0, 2); work(0, 20) -> 4",
            "cell(0, 0, 0) -> 11");
        Story.tell("For an EVENT (HIDDEN ones too) the program runs: and EMITs",
            "define(0: VALUE, EMIT 9) -> OK; put(0, 0: 5); cut(0, 1); work(0, 1) -> 1; read(1, 0) -> 2",
            "found(3) -> 5");
        Story.tell("(No instruction runs twice for one event.)",
            "define(0: VALUE, ZERO 2, PUSH 1, EMIT 8, CELL 1, PUSH 1, ADD, SET 1) -> OK; put(0, 0: 0 5)",
            "work(0, 2) -> 2", "version(1) -> 2; cell(0, 0, 1) -> 2");
        Story.tell("Else its position is one more",
            "define(0: END) -> OK; put(0, 0: 5 6); position(0) -> 0; work(0, 1) -> 1", "position(0) -> 1",
            "work(0, 1) -> 1; position(0) -> 2; work(0, 1) -> 0; position(0) -> 2");
    }

    private static void origins() {
        String sentence = "if the log has an EVENT with that ORIGIN already nothing is appended";
        String twice = "VALUE, EMIT 8, VALUE, EMIT 8";
        Story.tell(sentence,
            "define(0: VALUE, EMIT 8); put(0, 0: 5); work(0, 1); flush(); crash(0); position(0) -> 0",
            "work(0, 1) -> 1; position(0) -> 1; size(0) -> 2; version(1) -> 1");
        Story.tell(sentence + ": another projection",
            "define(0: VALUE, EMIT 8); define(1: VALUE, EMIT 8); define(2: VALUE, EMIT 8)", "put(0, 0: 5)",
            "work(0, 1) -> 1; work(1, 1) -> 1; work(2, 1) -> 1; version(1) -> 3", "read(1, 0) -> 1; found(4) -> 0",
            "read(1, 1) -> 2; found(4) -> 1; read(1, 2) -> 3; found(4) -> 2; found(5) -> 0");
        Story.tell(sentence + ": another position",
            "define(0: VALUE, EMIT 8); put(0, 0: 5 5); work(0, 2) -> 2; version(1) -> 2", "read(1, 0) -> 2",
            "found(5) -> 0; read(1, 1) -> 3; found(5) -> 1");
        Story.tell(sentence + ": another number",
            "define(0: " + twice + "); put(0, 0: 5); work(0, 1) -> 1; version(1) -> 2");
        Story.tell(sentence + ": the other number is appended where one is there",
            "define(0: " + twice + "); put(0, 0: 5); flush(); work(0, 1) -> 1; crash(1) -> 1; version(1) -> 1",
            "work(0, 1) -> 1; version(1) -> 2; size(0) -> 3; position(0) -> 1");
        Story.tell(sentence + ": though there is no room",
            "define(0: VALUE, SET 1, VALUE, EMIT 8); put(0, 0: 5); work(0, 1); flush()", "fill(38); crash(99) -> 0",
            "size(2) -> 40; position(0) -> 0; work(0, 1) -> 1; cell(0, 0, 1) -> 5; position(0) -> 1",
            "work(0, 1) -> FULL; position(0) -> 1; size(0) -> 40");
        Story.tell(sentence + ": a HIDDEN one counts",
            "define(0: VALUE, EMIT 8); put(0, 0: 5); work(0, 1); cut(1, 1); flush()", "crash(0); work(0, 1) -> 1",
            "version(1) -> 1; size(0) -> 3");
        Story.tell("else the event is appended: a lost one again, with its new value",
            "define(0: CELL 0, PUSH 1, ADD, DUP, SET 0, EMIT 8); put(0, 0: 5 6); flush(); work(0, 2); size(0) -> 4",
            "note(0); crash(1) -> 1; work(0, 2) -> 2; size(0) -> 4; read(1, 1) -> 3; found(3) -> 2; found(5) -> 1");
        Story.tell("else the event is appended: without ORIGIN where append appends it",
            "define(2: VALUE, EMIT 8); put(0, 0: 5); put(1, 0: 5); work(2, 1) -> 1; version(1) -> 2",
            "read(1, 0) -> 1; found(4) -> -1; found(5) -> -1; read(1, 1) -> 2; found(4) -> 2; found(5) -> 0");
    }

    private static void workingWhenFull() {
        String sentence = "If something emitted would be FULL, the projection is as before this record";
        String program = "define(0: VALUE, SET 0, TYPE, SET 1, VALUE, EMIT 33, VALUE, EMIT 34) -> OK; put(1, 6: 70);";
        Story.tell(sentence + ": room for both",
            program, "fill(37); work(0, 1) -> 1; position(0) -> 1; cell(0, 1, 0) -> 70", "cell(0, 1, 1) -> 6",
            "size(0) -> 40; version(4) -> 2");
        Story.tell(sentence + ": room for one, which stays",
            program, "fill(38); work(0, 1) -> FULL; position(0) -> 0", "cell(0, 1, 0) -> 0; cell(0, 1, 1) -> 0",
            "size(0) -> 40; read(4, 0) -> 39; found(2) -> 1; found(3) -> 70", "found(4) -> 0; found(5) -> 0",
            "version(4) -> 1; work(0, 20) -> FULL; size(0) -> 40; cell(0, 1, 0) -> 0");
        Story.tell(sentence + ": room for none",
            program, "fill(39); work(0, 1) -> FULL; position(0) -> 0; cell(0, 1, 0) -> 0", "size(0) -> 40",
            "version(4) -> 0; next(40) -> NONE");
        Story.tell(sentence + ": not as before the call",
            "define(0: CELL 0, VALUE, ADD, SET 0, CELL 0, EMIT 8) -> OK; put(2, 0: 5 6 7); fill(35)",
            "work(0, 20) -> FULL", "position(0) -> 2; cell(0, 2, 0) -> 11; size(0) -> 40; read(1, 1) -> 39",
            "found(3) -> 11");
        Story.tell(sentence + ": both cells have what they had",
            "define(0: VALUE, SET 0, TYPE, SET 1, TYPE, ZERO 8, VALUE, EMIT 33) -> OK; put(1, 0: 70); put(1, 6: 71)",
            "work(0, 1) -> 1; define(1: END); fill(38); work(0, 1) -> FULL; cell(0, 1, 0) -> 70; cell(0, 1, 1) -> 0");
        Story.tell(sentence + ": both cells have what they had",
            "define(0: PUSH 5, SET 0, PUSH 6, SET 1, VALUE, EMIT 8) -> OK; put(3, 0: 1); work(0, 1) -> 1",
            "put(3, 0: 1)", "define(1: VALUE, SET 0, VALUE, PUSH 1, ADD, SET 1, TYPE, ZERO 10, VALUE, EMIT 8) -> OK",
            "put(3, 7: 9); fill(36)", "work(1, 3) -> 3; cell(1, 3, 0) -> 1; cell(1, 3, 1) -> 2; work(1, 1) -> FULL",
            "cell(1, 3, 0) -> 1", "cell(1, 3, 1) -> 2; position(1) -> 3");
        Story.tell(sentence + ": the other projections and the KEPT and NOTED states too",
            "define(1: PUSH 9, SET 1) -> OK", program, "fill(38); work(1, 1); note(0) -> 0; work(0, 1) -> FULL",
            "position(1) -> 1", "cell(1, 1, 1) -> 9; flush(); crash(0); position(0) -> 0; cell(0, 1, 0) -> 0",
            "position(1) -> 0");
        Story.tell("(what was appended for it before stays): and is emitted once, where room is made",
            "fill(30); cut(0, 30); flush(); define(0: VALUE, SET 0, VALUE, EMIT 33, VALUE, EMIT 34) -> OK",
            "position(0) -> 31", "put(1, 0: 1 2 3 4); put(1, 0: 5 6 7 8); size(2) -> 39; work(0, 20) -> FULL",
            "position(0) -> 31; version(4) -> 1", "scavenge() -> 31; work(0, 1) -> 1; version(4) -> 2",
            "size(0) -> 41; cell(0, 1, 0) -> 1; position(0) -> 32", "read(4, 1) -> 40; found(2) -> 2",
            "found(5) -> 31");
    }

    private static void groups() {
        Story.tell("A group that was formed has a type (8: any)",
            "form(0, 8); form(1, 7); put(0, 0: 1); put(0, 7: 2); put(0, 1: 3); take(0) -> 0; take(0) -> 1",
            "take(0) -> 2", "take(0) -> NONE; take(1) -> 1; take(1) -> NONE");
        String sentence = "TAKEN events (position, how often it was taken, DUE time), at most 6";
        Story.tell(sentence,
            "form(0, 8); fill(8); 5 * take(0); group(0, 1) -> 5; take(0) -> 5; group(0, 1) -> 6", "take(0) -> FULL",
            "group(0, 1) -> 6; answer(0, 2, true) -> true; group(0, 1) -> 5; take(0) -> 6; take(0) -> FULL");
        Story.tell(sentence + ": each group for itself",
            "form(0, 8); form(1, 8); fill(7); 6 * take(0); take(0) -> FULL", "take(1) -> 0; 5 * take(1)",
            "group(1, 1) -> 6; take(1) -> FULL; answer(0, 0, true); take(1) -> FULL; take(0) -> 6");
        Story.tell("There is a TIME, at first 0",
            "form(0, 8); put(0, 0: 1); take(0) -> 0; tick(9) -> 0; tick(1) -> 1");
    }

    private static void returned() {
        String sentence = "if it was taken 3 times or more it is PARKED, else it goes to the end of the row"
            + " of WAITING ones";
        String again = "take(0) -> 0; answer(0, 0, false) -> true;";
        Story.tell(sentence + ": once", "form(0, 8); put(0, 0: 1)", again, "group(0, 2) -> 1; group(0, 3) -> 0");
        Story.tell(sentence + ": twice",
            "form(0, 8); put(0, 0: 1)", again.repeat(2), "group(0, 2) -> 1; group(0, 3) -> 0");
        Story.tell(sentence + ": three times", "form(0, 8); put(0, 0: 1)", again.repeat(3),
            "group(0, 1) -> 0; group(0, 2) -> 0; group(0, 3) -> 1; take(0) -> NONE");
        Story.tell(sentence + ": four times, behind a crash",
            "form(0, 8); put(0, 0: 1)", again.repeat(2), "take(0) -> 0; flush(); crash(0); group(0, 2) -> 1",
            "take(0) -> 0; group(0, 3) -> 0; answer(0, 0, false) -> true", "group(0, 2) -> 0; group(0, 3) -> 1");
        Story.tell(sentence + ": by tick too",
            "form(0, 8); put(0, 0: 1); take(0) -> 0; tick(10) -> 1; group(0, 2) -> 1", "take(0) -> 0; tick(10) -> 1",
            "group(0, 2) -> 1; take(0) -> 0; tick(10) -> 1; group(0, 2) -> 0; group(0, 3) -> 1");
        Story.tell(sentence + ": the end of the row",
            "form(0, 8); fill(4); 3 * take(0); answer(0, 1, false); answer(0, 0, false)", "answer(0, 2, false)",
            "take(0) -> 1; answer(0, 1, false); take(0) -> 0; take(0) -> 2; take(0) -> 1; take(0) -> 3");
        Story.tell("it is TAKEN no more",
            "form(0, 8); put(0, 0: 1); take(0); answer(0, 0, false) -> true; group(0, 1) -> 0",
            "answer(0, 0, false) -> false; answer(0, 0, true) -> false; group(0, 2) -> 1");
    }

    private static void time() {
        String sentence = "There is a TIME";
        Story.tell(sentence + ": it is one for both groups",
            "form(0, 8); form(1, 8); put(0, 0: 1); take(0); tick(5); take(1) -> 0", "tick(4) -> 0; tick(1) -> 1",
            "group(0, 2) -> 1; group(1, 2) -> 0; tick(4) -> 0; tick(1) -> 1; group(1, 2) -> 1");
        Story.tell(sentence + ": form does not set it back",
            "form(0, 8); put(0, 0: 1); tick(50); take(0); tick(3); form(1, 8)", "take(1) -> 0; tick(6) -> 0",
            "tick(1) -> 1; tick(2) -> 0; tick(1) -> 1");
    }

    private static void low() {
        String sentence = "LOW is the least of FLUSHED";
        Story.tell(sentence,
            "size(3) -> 0; put(0, 0: 1 2); size(3) -> 0; flush(); size(3) -> 2; put(0, 0: 3); size(3) -> 2");
        Story.tellEach("the KEPT positions of all projections that have programs", 3,
            "put(0, 0: 1); flush(); define(#: END); put(0, 0: 2 3); flush(); size(3) -> 1; work(#, 1); size(3) -> 1",
            "note(#) -> 2; size(3) -> 1; flush(); size(3) -> 2; work(#, 1); note(#); crash(0); size(3) -> 2",
            "work(#, 1); note(#) -> 3; flush(); size(3) -> 3; put(0, 0: 4); flush(); size(3) -> 3; drop(#)",
            "size(3) -> 4");
        Story.tell("the KEPT positions of all projections that have programs: a draft is none",
            "put(0, 0: 1); flush(); code(END, 0); size(3) -> 1; define(0) -> OK; put(0, 0: 2); flush()",
            "size(3) -> 1");
        Story.tell("LOW is the least: of three projections and two groups",
            "put(0, 0: 1); flush(); define(1: END); put(0, 0: 2); flush(); form(1, 8); put(0, 0: 3); flush()",
            "define(0: END)", "put(0, 0: 4); flush(); form(0, 8); put(0, 0: 5); flush(); define(2: END)",
            "put(0, 0: 6); flush(); size(3) -> 1", "drop(1); size(3) -> 2; form(1, 8) -> 6; size(3) -> 3; drop(0)",
            "size(3) -> 4; form(0, 8) -> 6; size(3) -> 5", "drop(2); size(3) -> 6");
        Story.tell("LOW behind a crash", "put(0, 0: 1); put(0, 0: 2); size(3) -> 0; crash(1) -> 1; size(3) -> 1");
    }

    private static void lowOfGroups() {
        Story.tellEach("the cursors in the KEPT states of all groups", 2,
            "put(0, 0: 1); flush(); form(#, 8) -> 1; put(0, 0: 2 3); flush(); size(3) -> 1; take(#) -> 1",
            "size(3) -> 1; answer(#, 1, true); size(3) -> 1; flush(); size(3) -> 2; take(#) -> 2; answer(#, 2, true)",
            "size(3) -> 2; flush(); size(3) -> 3");
        Story.tellEach("and the positions of the unacknowledged events there", 2,
            "form(#, 8); put(0, 0: 1 2 3 4); 4 * take(#); flush(); size(3) -> 0; answer(#, 0, true); size(3) -> 0",
            "flush(); size(3) -> 1; answer(#, 1, true); answer(#, 2, false); flush(); size(3) -> 2", "take(#) -> 2",
            "answer(#, 2, true); size(3) -> 2; flush(); size(3) -> 3; answer(#, 3, true); flush(); size(3) -> 4");
        Story.tell("and the positions of the unacknowledged events there: not of PARKED ones",
            "form(0, 8); put(0, 0: 1 2); take(0); answer(0, 0, false); take(0); answer(0, 0, false); take(0)",
            "flush(); size(3) -> 0", "answer(0, 0, false); group(0, 3) -> 1; flush(); size(3) -> 1");
        Story.tell("and the positions of the unacknowledged events there: of HIDDEN ones too, until they are"
            + " passed over",
            "form(0, 8); put(0, 0: 1 2); take(0); answer(0, 0, false); cut(0, 2); flush(); size(3) -> 0",
            "take(0) -> NONE", "size(3) -> 0; flush(); size(3) -> 3");
    }

    private static void orderOfTests() {
        String sentence = "Calls make their tests in the order in which they are named";
        Story.tell(sentence + ": append, BAD and CONFLICT", "append(0, 3) -> BAD; append(5, 3) -> BAD; event(0, 1)",
            "append(5, 3) -> BAD; append(-1, 3) -> BAD; append(0, 3) -> CONFLICT; append(0, -1) -> 0");
        Story.tell(sentence + ": append, then FULL",
            "fill(40); append(0, 3) -> BAD; append(5, -2) -> BAD; event(0, 1)", "append(5, 3) -> BAD",
            "append(0, 3) -> CONFLICT; append(0, 39) -> FULL; append(0, -2) -> FULL");
        Story.tell(sentence + ": cut",
            "fill(40); cut(5, 0) -> BAD; cut(0, -1) -> BAD; cut(0, 41) -> BAD; cut(0, 40) -> FULL");
        Story.tell(sentence + ": define", "define(3) -> BAD; define(0) -> BAD; code(ADD, 0); define(3) -> BAD",
            "define(-1) -> BAD; define(0) -> FAULTY+0");
        Story.tell(sentence + ": drop, note, position",
            "drop(3) -> BAD; note(3) -> BAD; position(3) -> BAD; drop(-1) -> BAD", "note(-1) -> BAD",
            "position(-1) -> BAD; drop(2) -> NONE; note(2) -> NONE; position(2) -> NONE");
        Story.tell(sentence + ": work", "work(3, 0) -> BAD; work(3, 1) -> BAD; work(0, 0) -> BAD; work(0, 21) -> BAD",
            "work(0, 20) -> NONE; define(0: VALUE, EMIT 8); fill(40); work(0, 0) -> BAD; work(0, 21) -> BAD",
            "work(0, 1) -> FULL; drop(0); work(0, 1) -> NONE");
        Story.tell(sentence + ": take",
            "take(2) -> BAD; take(-1) -> BAD; take(0) -> NONE; form(0, 8); take(0) -> NONE", "fill(6); 6 * take(0)",
            "take(2) -> BAD; take(1) -> NONE; take(0) -> FULL; answer(0, 0, true); take(0) -> NONE");
    }
}
