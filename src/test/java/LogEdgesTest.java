/** The boundary cases that promises 1 to 7 name, sentence by sentence. */
public final class LogEdgesTest {
    public static void main(String[] args) {
        promise1();
        promise2Types();
        promise2Draft();
        promise3Bad();
        promise3Conflict();
        promise3ConflictCountsAllEvents();
        promise3Full();
        promise3Answer();
        promise4Bad();
        promise4Full();
        promise5();
        promise5Noted();
        promise5Groups();
        promise6HowMany();
        promise6OneAppendCall();
        promise6Lost();
        promise6Projections();
        promise6Groups();
        promise7BelowLow();
        promise7BelowFlushed();
        promise7Answer();
        Due.end();
    }

    private static void promise1() {
        Story.tell("An empty log",
            "size(0) -> 0; size(1) -> 0; size(2) -> 0; size(3) -> 0; next(0) -> NONE; next(MIN) -> NONE",
            "version(0) -> 0; version(1) -> 0; version(2) -> 0; version(3) -> 0; version(4) -> 0",
            "total(8, MIN, MAX) -> 0");
        Story.tell("An empty log: nothing to flush, to lose or to scavenge",
            "flush() -> 0; scavenge() -> 0; crash(0) -> 0; crash(MAX) -> 0");
        Story.tell("no programs",
            "position(0) -> NONE; position(1) -> NONE; position(2) -> NONE; drop(0) -> NONE", "drop(1) -> NONE",
            "drop(2) -> NONE; work(0, 1) -> NONE; work(2, 1) -> NONE; note(0) -> NONE; cell(0, 0, 0) -> 0");
        Story.tell("empty drafts", "append(0, -2) -> BAD; append(0, -1) -> BAD; define(0) -> BAD; define(2) -> BAD");
        Story.tell("A new object: no groups",
            "take(0) -> NONE; take(1) -> NONE; group(0, 0) -> BAD; group(1, 3) -> BAD",
            "answer(0, 0, true) -> false; tick(100) -> 0");
        Story.tell("A new object: nothing found", "found(0) -> 0; found(3) -> 0; found(4) -> 0; found(5) -> 0");
    }

    private static void promise2Types() {
        String sentence = "False if t is outside 0..7";
        Story.tell(sentence,
            "event(MIN, 1) -> false; event(-1, 1) -> false; event(8, 1) -> false; event(9, 1) -> false",
            "event(MAX, 1) -> false; append(0, -2) -> BAD");
        Story.tell(sentence,
            "event(0, 1) -> true; event(1, 2) -> true; event(2, 3) -> true; event(3, 4) -> true; append(0, -2) -> 0",
            "event(4, 1) -> true; event(5, 2) -> true; event(6, 3) -> true; event(7, 4) -> true; append(0, -2) -> 4",
            "total(0, 0, 9) -> 1; total(3, 0, 9) -> 4; total(4, 0, 9) -> 1; total(7, 0, 9) -> 4; size(0) -> 8");
        Story.tell("Adds an event: any v",
            "event(1, MIN) -> true; event(1, MAX) -> true; event(1, 0) -> true; append(0, -2) -> 0", "next(0) -> 0",
            "found(3) -> MIN; next(1) -> 1; found(3) -> MAX; next(2) -> 2; found(3) -> 0; total(1, 0, 9) -> -1");
    }

    private static void promise2Draft() {
        String sentence = "False if it has 4";
        Story.tell(sentence,
            "3 * event(1, 5) -> true; event(1, 6) -> true; event(1, 7) -> false; event(1, 8) -> false",
            "append(0, -2) -> 0; size(0) -> 4; total(1, 0, 9) -> 21; event(1, 9) -> true");
        Story.tell(sentence + ": a refused t does not count",
            "event(8, 0) -> false; event(-1, 0) -> false; 4 * event(1, 5) -> true", "event(1, 5) -> false",
            "append(0, -2) -> 0; size(0) -> 4");
        Story.tell(sentence + ": a refused append leaves them",
            "4 * event(1, 5) -> true; append(5, -2) -> BAD; append(0, 0) -> CONFLICT", "event(1, 5) -> false",
            "append(0, -1) -> 0; size(0) -> 4");
        Story.tell(sentence + ": a crash empties it",
            "4 * event(1, 5); crash(0) -> 0; 4 * event(1, 6) -> true; event(1, 6) -> false");
        Story.tell(sentence + ": flush, cut and scavenge do not",
            "4 * event(1, 5); flush(); cut(0, 0); scavenge(); event(1, 6) -> false", "append(0, -2) -> 1",
            "size(0) -> 5");
    }

    private static void promise3Bad() {
        String sentence = "BAD if s is outside 0..4 or the draft is empty";
        Story.tell(sentence,
            "event(1, 5); append(MIN, -2) -> BAD; append(-1, -2) -> BAD; append(5, -2) -> BAD",
            "append(MAX, -2) -> BAD", "size(0) -> 0; append(0, -2) -> 0; event(1, 5); append(4, -2) -> 1",
            "version(0) -> 1; version(4) -> 1");
        Story.tell(sentence + ": empty at first and behind each append",
            "append(0, -2) -> BAD; append(0, -1) -> BAD; event(1, 5)", "append(0, -2) -> 0; append(0, -2) -> BAD",
            "append(0, 0) -> BAD; size(0) -> 1");
        Story.tell(sentence + ": before CONFLICT",
            "append(0, 7) -> BAD; event(1, 5); append(-1, 7) -> BAD; append(5, 7) -> BAD; append(4, 7) -> CONFLICT");
        Story.tell(sentence + ": before FULL",
            "fill(40); append(0, -2) -> BAD; event(1, 5); append(5, -2) -> BAD; append(4, -2) -> FULL");
    }

    private static void promise3Conflict() {
        String sentence = "CONFLICT unless expected is -2 or the version of the last event of s (-1 if there is none)";
        Story.tell(sentence + ": none is there",
            "event(1, 5); append(0, MIN) -> CONFLICT; append(0, -3) -> CONFLICT; append(0, 0) -> CONFLICT",
            "append(0, 1) -> CONFLICT; append(0, MAX) -> CONFLICT; size(0) -> 0; append(0, -1) -> 0");
        Story.tell(sentence + ": none is there, -2", "event(1, 5); append(0, -2) -> 0");
        Story.tell(sentence + ": one is there",
            "put(0, 0: 1); event(1, 5); append(0, -3) -> CONFLICT; append(0, -1) -> CONFLICT",
            "append(0, 1) -> CONFLICT; append(0, 0) -> 1");
        Story.tell(sentence + ": three are there",
            "put(0, 0: 1 2 3); event(1, 5); append(0, -1) -> CONFLICT; append(0, 1) -> CONFLICT",
            "append(0, 3) -> CONFLICT; append(0, 2) -> 3; event(1, 6); append(0, 2) -> CONFLICT; append(0, 3) -> 4");
        Story.tell(sentence + ": three are there, -2", "put(0, 0: 1 2 3); event(1, 5); append(0, -2) -> 3");
        Story.tell(sentence + ": of s, not of another",
            "put(0, 0: 1 2 3); put(1, 0: 4); event(1, 5); append(1, 2) -> CONFLICT", "append(2, 0) -> CONFLICT",
            "append(2, -1) -> 4; event(1, 6); append(1, 0) -> 5");
        Story.tell(sentence + ": before FULL",
            "fill(40); event(1, 5); append(0, 38) -> CONFLICT; append(0, 40) -> CONFLICT",
            "append(1, 0) -> CONFLICT; append(0, 39) -> FULL; append(1, -1) -> FULL; append(0, -2) -> FULL");
    }

    private static void promise3ConflictCountsAllEvents() {
        String sentence = "the version of the last event of s";
        Story.tell(sentence + ": a CUT is none",
            "put(0, 0: 1); cut(0, 1); cut(0, 0); event(1, 5); append(0, 1) -> CONFLICT; append(0, 0) -> 3");
        Story.tell(sentence + ": a CUT of a stream without events",
            "cut(0, 0); event(1, 5); append(0, 0) -> CONFLICT; append(0, -1) -> 1");
        Story.tell(sentence + ": a HIDDEN one",
            "put(0, 0: 1 2); cut(0, 2); event(1, 5); append(0, -1) -> CONFLICT; append(0, 1) -> 3");
        Story.tell(sentence + ": a REMOVED one", "put(0, 0: 1 2); cut(0, 2); flush(); scavenge() -> 3; event(1, 5)",
            "append(0, -1) -> CONFLICT; append(0, 0) -> CONFLICT; append(0, 1) -> 3");
        Story.tell(sentence + ": an emitted one",
            "define(0: VALUE, EMIT 8); put(0, 0: 1); work(0, 1); event(1, 5); append(1, -1) -> CONFLICT",
            "append(1, 0) -> 2");
        Story.tell(sentence + ": not a lost one",
            "put(0, 0: 1); flush(); put(0, 0: 2 3); crash(0) -> 2; event(1, 5); append(0, 2) -> CONFLICT",
            "append(0, 0) -> 1");
        Story.tell(sentence + ": the last was lost",
            "put(0, 0: 1); crash(0) -> 1; event(1, 5); append(0, 0) -> CONFLICT; append(0, -1) -> 0");
    }

    private static void promise3Full() {
        Story.tell("FULL: the draft stays, and is appended where room is made",
            "fill(37); cut(0, 37); flush(); 2 * event(1, 5); event(1, 6); append(1, -1) -> FULL",
            "append(1, -2) -> FULL; size(0) -> 38", "scavenge() -> 38; append(1, -1) -> 38; version(1) -> 3",
            "total(1, 0, 99) -> 16; size(2) -> 3; append(1, -2) -> BAD");
        Story.tell("FULL: a draft of four where three fit, then of three",
            "fill(37); 4 * event(1, 5); append(1, -2) -> FULL; crash(99); 3 * event(1, 5); append(1, -2) -> 37",
            "size(2) -> 40");
    }

    private static void promise3Answer() {
        Story.tell("Appends the drafted events to stream s, in order",
            "event(1, 10); event(7, 11); event(0, 12); event(3, 13); append(3, -1) -> 0", "read(3, 0) -> 0",
            "found(2) -> 1; found(3) -> 10; read(3, 1) -> 1; found(2) -> 7; found(3) -> 11", "read(3, 2) -> 2",
            "found(2) -> 0; found(3) -> 12; read(3, 3) -> 3; found(2) -> 3; found(3) -> 13; read(3, 4) -> NONE");
        Story.tell("Else the position of the first",
            "put(0, 0: 1 2 3 4) -> 0; put(1, 0: 5) -> 4; put(0, 0: 6 7) -> 5; put(2, 0: 8) -> 7");
        Story.tell("the draft is empty then",
            "3 * event(1, 5); append(0, -2) -> 0; append(0, -2) -> BAD; event(2, 6); append(0, -2) -> 3",
            "size(0) -> 4; version(0) -> 4; total(2, 0, 9) -> 6");
    }

    private static void promise4Bad() {
        String sentence = "BAD if s is outside 0..4";
        Story.tell(sentence,
            "cut(MIN, 0) -> BAD; cut(-1, 0) -> BAD; cut(5, 0) -> BAD; cut(MAX, 0) -> BAD; size(0) -> 0",
            "cut(0, 0) -> 0; cut(4, 0) -> 1");
        sentence = "BAD if version below 0 or above the number of events of s";
        Story.tell(sentence + ": no events",
            "cut(2, MIN) -> BAD; cut(2, -1) -> BAD; cut(2, 1) -> BAD; cut(2, MAX) -> BAD; size(0) -> 0",
            "cut(2, 0) -> 0");
        Story.tell(sentence + ": three events",
            "put(2, 0: 1 2 3); cut(2, -1) -> BAD; cut(2, 4) -> BAD; cut(2, MAX) -> BAD; next(0) -> 0; size(0) -> 3",
            "cut(2, 2) -> 3; next(0) -> 2; cut(2, 3) -> 4; next(0) -> NONE; cut(2, 4) -> BAD; cut(2, 0) -> 5");
        Story.tell(sentence + ": of s, not of another",
            "put(0, 0: 1 2 3); put(1, 0: 4); cut(1, 2) -> BAD; cut(1, 1) -> 4; cut(0, 3) -> 5");
        Story.tell(sentence + ": HIDDEN and REMOVED ones count",
            "put(0, 0: 1 2); cut(0, 2) -> 2; cut(0, 2) -> 3; flush(); scavenge() -> 4; cut(0, 3) -> BAD",
            "cut(0, 2) -> 4");
        Story.tell(sentence + ": lost ones don't",
            "put(0, 0: 1 2); flush(); put(0, 0: 3); crash(0); cut(0, 3) -> BAD; cut(0, 2) -> 2");
    }

    private static void promise4Full() {
        Story.tell("FULL",
            "fill(39); cut(0, 1) -> 39; cut(0, 2) -> FULL; size(0) -> 40; read(0, 0) -> NONE; read(0, 1) -> 1");
        Story.tell("FULL: behind BAD",
            "fill(40); cut(0, 41) -> BAD; cut(0, -1) -> BAD; cut(5, 0) -> BAD; cut(1, 1) -> BAD; cut(0, 40) -> FULL",
            "cut(1, 0) -> FULL");
        Story.tell("Appends a CUT. Else its position",
            "put(0, 0: 1 2); cut(0, 1) -> 2; put(0, 0: 3) -> 3; cut(0, 1) -> 4; size(0) -> 5; version(0) -> 3");
    }

    private static void promise5() {
        String sentence = "Answers by how much FLUSHED grew";
        Story.tell(sentence,
            "flush() -> 0; put(0, 0: 1); flush() -> 1; size(1) -> 1; flush() -> 0; put(0, 0: 1 2); cut(0, 3)",
            "size(1) -> 1", "flush() -> 3; size(1) -> 4; flush() -> 0; size(1) -> 4");
        Story.tell(sentence + ": up to 40", "fill(40); flush() -> 40; size(1) -> 40; flush() -> 0");
        Story.tell(sentence + ": behind a crash",
            "put(0, 0: 1); put(0, 0: 2); crash(1) -> 1; flush() -> 0; put(0, 0: 3); flush() -> 1");
        Story.tell(sentence + ": REMOVED ones count",
            "put(0, 0: 1); cut(0, 1); flush() -> 2; scavenge() -> 2; flush() -> 0; put(0, 0: 2); flush() -> 1",
            "size(1) -> 3");
        Story.tell("FLUSHED becomes the number of records: what is flushed is not lost",
            "put(0, 0: 1 2); flush(); put(0, 0: 3); crash(0) -> 1; size(0) -> 2; crash(0) -> 0");
    }

    private static void promise5Noted() {
        Story.tellEach("every NOTED state a KEPT one", 3,
            "define(#: CELL 1, VALUE, ADD, SET 1); put(3, 0: 5 6 7); work(#, 1); note(#) -> 1; work(#, 1); flush()",
            "position(#) -> 2", "cell(#, 3, 1) -> 11; crash(0) -> 0; position(#) -> 1; cell(#, 3, 1) -> 5");
        Story.tellEach("every NOTED state a KEPT one, not what was not NOTED", 3,
            "define(#: CELL 1, VALUE, ADD, SET 1); put(3, 0: 5 6 7); work(#, 1); flush(); crash(0)",
            "position(#) -> 0; cell(#, 3, 1) -> 0");
        Story.tell("every NOTED state a KEPT one: all of them, each its own",
            "define(0: PUSH 1, SET 0); define(1: PUSH 2, SET 0); define(2: PUSH 3, SET 0); put(0, 0: 1 2 3)",
            "work(0, 1); work(1, 2); work(2, 3)", "note(0) -> 1; note(1) -> 2; note(2) -> 3; flush(); crash(0)",
            "position(0) -> 1; position(1) -> 2; position(2) -> 3", "cell(0, 0, 0) -> 1; cell(1, 0, 0) -> 2",
            "cell(2, 0, 0) -> 3");
        Story.tell("every NOTED state a KEPT one: it stays so at the next flush",
            "define(0: END); put(0, 0: 1 2 3); work(0, 1); note(0); flush(); work(0, 1); flush(); crash(0)",
            "position(0) -> 1");
        Story.tell("every NOTED state a KEPT one: where FLUSHED does not grow",
            "define(0: END); put(0, 0: 1 2 3); flush(); work(0, 2); note(0); flush() -> 0; crash(0)",
            "position(0) -> 2");
    }

    private static void promise5Groups() {
        Story.tellEach("the KEPT state of every group what it is now: its cursor, and the TAKEN and WAITING events", 2,
            "form(#, 8); fill(6); 4 * take(#); answer(#, 1, false); answer(#, 0, true); flush(); group(#, 0) -> 4",
            "group(#, 1) -> 2", "group(#, 2) -> 1; take(#) -> 1; take(#) -> 4; answer(#, 2, true)",
            "answer(#, 3, true); answer(#, 1, true); crash(0)", "group(#, 0) -> 4; group(#, 1) -> 0",
            "group(#, 2) -> 3; take(#) -> 1; take(#) -> 2; take(#) -> 3; take(#) -> 4");
        Story.tell("the KEPT state of every group what it is now: six TAKEN",
            "form(0, 8); fill(7); 6 * take(0); flush(); crash(0)", "group(0, 2) -> 6; group(0, 0) -> 6",
            "take(0) -> 0; 5 * take(0); take(0) -> FULL");
        Story.tell("the KEPT state of every group what it is now: six WAITING",
            "form(0, 8); fill(7); 6 * take(0); tick(10) -> 6; flush(); crash(0)", "group(0, 2) -> 6; take(0) -> 0",
            "take(0) -> 1; take(0) -> 2; take(0) -> 3; take(0) -> 4; take(0) -> 5; take(0) -> FULL");
        Story.tell("the KEPT state of every group what it is now: none",
            "form(0, 8); fill(4); 2 * take(0); flush(); answer(0, 0, true); answer(0, 1, true); flush()", "crash(0)",
            "group(0, 0) -> 2; group(0, 1) -> 0; group(0, 2) -> 0; take(0) -> 2");
    }

    private static void promise6HowMany() {
        String sentence = "the first k records (if there are so many) from FLUSHED on stay";
        for (int k = 0; k <= 5; k++) {
            int stay = Math.min(k, 4);
            Story.tell(sentence + ": " + k + " of 4",
                "put(0, 0: 1 2); flush(); put(0, 0: 3); cut(0, 0); put(1, 0: 4); cut(0, 1)",
                "crash(" + k + ") -> " + (4 - stay) + "; size(0) -> " + (2 + stay) + "; size(1) -> " + (2 + stay),
                "size(2) -> " + (2 + stay),
                "version(0) -> " + (stay > 0 ? 3 : 2) + "; version(1) -> " + (stay > 2 ? 1 : 0),
                "next(0) -> " + (stay > 3 ? 1 : 0) + "; crash(0) -> 0; size(0) -> " + (2 + stay));
        }
        Story.tell(sentence + ": far more than there are",
            "put(0, 0: 1); flush(); put(0, 0: 2); crash(MAX) -> 0; size(0) -> 2; size(1) -> 2");
        Story.tell(sentence + ": none is there",
            "put(0, 0: 1); flush(); crash(0) -> 0; crash(1) -> 0; crash(MAX) -> 0; size(0) -> 1");
        Story.tell("BAD if k is below 0",
            "put(0, 0: 1); crash(-1) -> BAD; crash(MIN) -> BAD; size(0) -> 1; size(1) -> 0; crash(0) -> 1",
            "size(0) -> 0");
        Story.tell("Answers how many records were lost: all 40",
            "fill(40); crash(0) -> 40; size(0) -> 0; size(2) -> 0; version(0) -> 0");
    }

    private static void promise6OneAppendCall() {
        String sentence = "of those that one append call appended all or none: if not all would stay, none do";
        String[] events = {"", "1", "1 2", "1 2 3", "1 2 3 4"};
        for (int n = 1; n <= 4; n++) {
            for (int k = 0; k <= n + 1; k++) {
                int stay = k >= n ? n : 0;
                Story.tell(sentence + ": " + k + " of " + n,
                    "put(0, 0: 1); flush(); put(1, 0: " + events[n] + "); crash(" + k + ") -> " + (n - stay),
                    "size(0) -> " + (1 + stay) + "; version(1) -> " + stay + "; size(1) -> " + (1 + stay));
            }
        }
        for (int k = 0; k <= 9; k++) {
            int stay = k >= 8 ? 8 : k >= 6 ? 6 : k >= 3 ? 3 : 0;
            Story.tell("and what is behind them is lost too: " + k + " of 3, 3 and 2",
                "put(0, 0: 1 2 3); put(0, 0: 4 5 6); put(1, 0: 7 8)",
                "crash(" + k + ") -> " + (8 - stay) + "; size(0) -> " + stay + "; version(0) -> " + Math.min(stay, 6));
        }
        for (int k = 0; k <= 4; k++) {
            int stay = k >= 4 ? 4 : k >= 3 ? 3 : k >= 1 ? 1 : 0;
            Story.tell("and what is behind them is lost too: " + k + " of 1, 2 and a CUT",
                "put(0, 0: 1); put(0, 0: 2 3); cut(0, 1)",
                "crash(" + k + ") -> " + (4 - stay) + "; size(0) -> " + stay);
        }
        Story.tell(sentence + ": calls for one stream are not one call",
            "put(0, 0: 1); put(0, 0: 2); put(0, 0: 3); crash(2) -> 1; size(0) -> 2");
        Story.tell(sentence + ": cuts are not", "cut(0, 0); cut(0, 0); cut(0, 0); crash(2) -> 1; size(0) -> 2");
        Story.tell(sentence + ": emitted ones are not",
            "define(0: VALUE, DUP, DUP, EMIT 8, EMIT 8, EMIT 8); put(0, 0: 1); flush(); work(0, 1)", "size(0) -> 4",
            "crash(2) -> 1; version(1) -> 2; crash(0) -> 0");
        Story.tell(sentence + ": nor those behind an append",
            "define(0: VALUE, EMIT 8); put(0, 0: 1 2); work(0, 2); size(0) -> 4; crash(3) -> 1; version(1) -> 1");
        for (int k = 0; k <= 4; k++) {
            Story.tell(sentence + ": " + k + " CUTS in place of lost ones",
                "put(0, 0: 1 2 3 4); crash(3) -> 4; 4 * cut(0, 0); crash(" + k + ") -> " + (4 - k));
            Story.tell(sentence + ": " + k + " emitted ones in place of lost ones",
                "define(0: VALUE, DUP, DUP, DUP, EMIT 8, EMIT 8, EMIT 8, EMIT 8); put(0, 0: 1); flush()",
                "put(1, 0: 1 2 3 4); crash(3) -> 4; work(0, 1) -> 1; size(0) -> 5; crash(" + k + ") -> " + (4 - k));
        }
        Story.tell(sentence + ": others in place of lost ones",
            "put(0, 0: 1 2 3 4); crash(3) -> 4; put(0, 0: 1); put(0, 0: 2); cut(0, 0); put(0, 0: 3)",
            "crash(3) -> 1; size(0) -> 3; version(0) -> 2");
    }

    private static void promise6Lost() {
        String sentence = "All other records from FLUSHED on are lost (as if never appended)";
        Story.tell(sentence + ": versions",
            "put(0, 0: 1); flush(); put(0, 0: 2 3); crash(0) -> 2; version(0) -> 1; read(0, 1) -> NONE",
            "next(1) -> NONE", "total(8, 0, 9) -> 1; put(0, 0: 9) -> 1; read(0, 1) -> 1; found(3) -> 9");
        Story.tell(sentence + ": cuts",
            "put(0, 0: 1 2); put(1, 0: 3); flush(); cut(0, 2); cut(1, 1); next(0) -> NONE; crash(1) -> 1",
            "next(0) -> 2; read(0, 0) -> NONE");
        Story.tell(sentence + ": ORIGINS",
            "define(0: VALUE, EMIT 8); put(0, 0: 1); flush(); work(0, 1); crash(0) -> 1; version(1) -> 0",
            "work(0, 1) -> 1; version(1) -> 1");
        Story.tell(sentence + ": an ORIGIN does not fall to what comes in its place",
            "define(0: VALUE, EMIT 8); put(0, 0: 1); flush(); work(0, 1); crash(0) -> 1; put(1, 0: 7) -> 1",
            "read(1, 0) -> 1; found(4) -> -1; found(5) -> -1", "work(0, 1) -> 1; version(1) -> 2");
        Story.tell("FLUSHED becomes the number of records",
            "put(0, 0: 1); put(0, 0: 2); put(0, 0: 3); size(1) -> 0; crash(2) -> 1; size(1) -> 2; form(0, 8) -> 2",
            "define(0: END); position(0) -> 2; crash(0) -> 0; size(0) -> 2; flush() -> 0");
        Story.tell("the drafts are empty",
            "2 * event(1, 1); code(PUSH, 1); crash(0); append(0, -2) -> BAD; define(0) -> BAD",
            "4 * event(1, 2) -> true", "14 * code(END, 0) -> true; code(END, 0) -> false; append(0, -2) -> 0",
            "total(1, 0, 9) -> 8; define(0) -> OK");
        Story.tell("at first, and behind a crash, none",
            "put(0, 3: 7); flush(); read(0, 0) -> 0; found(3) -> 7; crash(0); found(3) -> 0; found(2) -> 0",
            "found(4) -> 0", "found(5) -> 0; put(0, 3: 8); found(3) -> 0; next(0) -> 0; found(3) -> 7");
    }

    private static void promise6Projections() {
        Story.tell("NOTED states are gone",
            "define(0: END); put(0, 0: 1 2); flush(); work(0, 2); note(0) -> 2; crash(0); position(0) -> 0; flush()",
            "crash(0); position(0) -> 0");
        Story.tell("NOTED states are gone: not where the crash is BAD",
            "define(0: END); put(0, 0: 1 2); work(0, 2); note(0); crash(-1) -> BAD; flush(); crash(0)",
            "position(0) -> 2");
        Story.tellEach("every projection is in its KEPT state", 3,
            "define(#: CELL 0, VALUE, ADD, DUP, SET 0, SET 1); put(4, 0: 5 6 7); work(#, 1); note(#); flush()",
            "work(#, 2)", "position(#) -> 3; cell(#, 4, 0) -> 18; crash(0); position(#) -> 1; cell(#, 4, 0) -> 5",
            "cell(#, 4, 1) -> 5", "work(#, 1); crash(0); position(#) -> 1; cell(#, 4, 1) -> 5");
        Story.tell("every projection is in its KEPT state: one without a program has still none",
            "define(0: END); drop(0); crash(0); position(0) -> NONE; work(0, 1) -> NONE");
        Story.tell("every projection is in its KEPT state: it has its program still",
            "define(0: VALUE, SET 1); crash(0); put(2, 0: 8); work(0, 1) -> 1; cell(0, 2, 1) -> 8");
    }

    private static void promise6Groups() {
        String sentence = "every group has the cursor of its KEPT state, nothing TAKEN";
        Story.tellEach(sentence, 2,
            "form(#, 8); fill(4); take(#); answer(#, 0, true); flush(); take(#) -> 1; take(#) -> 2",
            "answer(#, 1, false); group(#, 0) -> 3", "crash(0); group(#, 0) -> 1; group(#, 1) -> 0",
            "group(#, 2) -> 0; answer(#, 2, true) -> false; take(#) -> 1; tick(10) -> 1");
        Story.tell(sentence + ": one never formed is not formed then",
            "form(0, 8); crash(0); group(1, 0) -> BAD; take(1) -> NONE; group(0, 0) -> 0");
        Story.tell(sentence + ": nothing TAKEN is DUE then",
            "form(0, 8); fill(2); 2 * take(0); flush(); tick(5); crash(0); tick(50) -> 0; group(0, 2) -> 2");
        Story.tell("are WAITING, by rising positions",
            "form(0, 8); fill(6); 6 * take(0); answer(0, 4, false); answer(0, 1, false); answer(0, 3, false)",
            "answer(0, 5, true); flush()", "crash(0); group(0, 2) -> 5; take(0) -> 0; take(0) -> 1; take(0) -> 2",
            "take(0) -> 3; take(0) -> 4; take(0) -> NONE");
        Story.tell("taken as often as there",
            "form(0, 8); fill(3); 3 * take(0); answer(0, 1, false); take(0) -> 1; answer(0, 2, false); take(0) -> 2",
            "answer(0, 2, false); take(0) -> 2", "flush(); answer(0, 1, false); take(0) -> 1; answer(0, 1, false)",
            "group(0, 3) -> 1; crash(0); take(0) -> 0; take(0) -> 1; take(0) -> 2; group(0, 3) -> 1",
            "answer(0, 0, false); group(0, 3) -> 1; answer(0, 1, false); group(0, 3) -> 2; answer(0, 2, false)",
            "group(0, 3) -> 3; group(0, 2) -> 1");
        Story.tell("taken as often as there: in whatever order they were taken",
            "form(0, 8); fill(3); 3 * take(0); answer(0, 0, false); take(0) -> 0; answer(0, 1, false); take(0) -> 1",
            "answer(0, 1, false); take(0) -> 1; flush(); crash(0); take(0) -> 0; take(0) -> 1; take(0) -> 2",
            "answer(0, 0, false); group(0, 3) -> 1; answer(0, 1, false); group(0, 3) -> 2; answer(0, 2, false)",
            "group(0, 3) -> 2; group(0, 2) -> 1");
        Story.tell("taken as often as there: twice each, the last one first",
            "form(0, 8); fill(3); 3 * take(0); answer(0, 2, false); take(0) -> 2; answer(0, 0, false); take(0) -> 0",
            "answer(0, 1, false); take(0) -> 1; flush(); crash(0); 3 * take(0); group(0, 3) -> 0; answer(0, 0, false)",
            "group(0, 3) -> 1; answer(0, 1, false); group(0, 3) -> 2; answer(0, 2, false); group(0, 3) -> 3");
        Story.tell(sentence + ": six were TAKEN", "form(0, 8); fill(7); flush(); 6 * take(0); crash(0)",
            "group(0, 1) -> 0; group(0, 2) -> 0; group(0, 0) -> 0; take(0) -> 0; group(0, 1) -> 1; tick(10) -> 1");
        Story.tell(sentence + ": six were TAKEN and KEPT", "form(0, 8); fill(7); 6 * take(0); flush(); crash(0)",
            "group(0, 1) -> 0; group(0, 2) -> 6; take(0) -> 0; group(0, 1) -> 1; group(0, 2) -> 5; tick(10) -> 1");
        Story.tell("TIME goes on",
            "form(0, 8); fill(2); tick(7); crash(99); take(0) -> 0; tick(9) -> 0; tick(1) -> 1");
        Story.tell("TIME goes on: a crash takes no time",
            "form(0, 8); form(1, 8); fill(2); flush(); tick(3); take(0); flush(); crash(0); crash(1); take(0) -> 0",
            "tick(9) -> 0; tick(1) -> 1");
        Story.tell("3 PARKED since it was formed (a crash does not change that)",
            "form(0, 8); put(0, 0: 1); take(0); flush(); answer(0, 0, false); take(0); answer(0, 0, false)",
            "take(0); answer(0, 0, false); group(0, 3) -> 1; group(0, 2) -> 0; crash(0); group(0, 3) -> 1",
            "group(0, 2) -> 1");
    }

    private static void promise7BelowLow() {
        String sentence = "Of the records below LOW";
        Story.tell(sentence + ": CUTS below it, at it and above it",
            "cut(0, 0); cut(0, 0); flush(); define(0: END); cut(0, 0); cut(0, 0); flush(); size(3) -> 2",
            "scavenge() -> 2", "size(2) -> 2; work(0, 1); note(0); flush(); size(3) -> 3; scavenge() -> 1",
            "size(2) -> 1; drop(0); scavenge() -> 1; size(2) -> 0");
        Story.tell(sentence + ": EVENTS below it, at it and above it",
            "put(0, 0: 1 2); flush(); form(1, 8); put(0, 0: 3 4); cut(0, 4); flush(); size(3) -> 2; scavenge() -> 2",
            "size(2) -> 3; form(1, 8); scavenge() -> 3; size(2) -> 0");
        Story.tell(sentence + ": at FLUSHED",
            "cut(0, 0); flush(); cut(0, 0); size(3) -> 1; scavenge() -> 1; size(2) -> 1; flush(); scavenge() -> 1");
        Story.tell(sentence + ": LOW 0",
            "form(0, 8); put(0, 0: 1); cut(0, 1); flush(); size(3) -> 0; scavenge() -> 0; size(2) -> 2");
        Story.tell(sentence + ": an unacknowledged event is not below it",
            "form(0, 8); put(0, 0: 1 2 3); 3 * take(0); answer(0, 0, true); answer(0, 2, true); cut(0, 3); flush()",
            "size(3) -> 1; scavenge() -> 1; answer(0, 1, true); scavenge() -> 0; flush(); size(3) -> 3",
            "scavenge() -> 2; size(2) -> 1");
    }

    private static void promise7BelowFlushed() {
        String sentence = "all EVENTS that are HIDDEN by CUTS below FLUSHED";
        Story.tell(sentence + ": the CUT is below it",
            "put(0, 0: 1 2); cut(0, 1); flush(); scavenge() -> 2; size(2) -> 1");
        Story.tell(sentence + ": the CUT is at it",
            "put(0, 0: 1 2); flush(); cut(0, 1); read(0, 0) -> NONE; scavenge() -> 0; flush(); scavenge() -> 2");
        Story.tell(sentence + ": the CUT is above it",
            "put(0, 0: 1 2); flush(); cut(1, 0); cut(0, 1); scavenge() -> 0; size(2) -> 4");
        Story.tell(sentence + ": the CUT is the last below it",
            "put(0, 0: 1 2); put(1, 0: 3); cut(0, 2); flush(); cut(1, 1); scavenge() -> 3; size(2) -> 2",
            "read(1, 0) -> NONE");
        Story.tell(sentence + ": the CUT is not below LOW",
            "put(0, 0: 1 2); flush(); define(0: END); cut(0, 1); flush(); size(3) -> 2; scavenge() -> 1",
            "size(2) -> 2");
        Story.tell(sentence + ": the CUT is REMOVED",
            "put(0, 0: 1 2); cut(0, 1); flush(); form(0, 8); put(0, 0: 3); cut(0, 2); flush(); scavenge() -> 3",
            "size(2) -> 2", "form(0, 8); scavenge() -> 1; size(2) -> 1; read(0, 2) -> 3");
        Story.tell(sentence + ": a deeper CUT above FLUSHED",
            "put(0, 0: 1 2 3); cut(0, 1); flush(); cut(0, 3); scavenge() -> 2; size(2) -> 3; crash(0) -> 1",
            "read(0, 1) -> 1; size(2) -> 2");
        Story.tell(sentence + ": version below, at and above that of the CUT",
            "put(0, 0: 1 2 3); cut(0, 2); flush(); scavenge() -> 3; size(2) -> 1; read(0, 2) -> 2");
        Story.tell(sentence + ": of its stream",
            "put(0, 0: 1 2); put(1, 0: 3 4); cut(1, 2); flush(); scavenge() -> 3; size(2) -> 2; read(0, 0) -> 0");
    }

    private static void promise7Answer() {
        Story.tell("Answers how many: none",
            "scavenge() -> 0; put(0, 0: 1 2); scavenge() -> 0; flush(); scavenge() -> 0; size(2) -> 2");
        Story.tell("Answers how many: each once",
            "put(0, 0: 1 2 3); cut(0, 1); flush(); scavenge() -> 2; scavenge() -> 0; cut(0, 3); flush()",
            "scavenge() -> 3; scavenge() -> 0; size(2) -> 0; size(0) -> 5");
        Story.tell("Answers how many: all 40",
            "fill(39); cut(0, 39); flush(); scavenge() -> 40; size(2) -> 0; size(0) -> 40");
        Story.tell("Of the records that aren't REMOVED: they stay so behind a crash",
            "put(0, 0: 1); cut(0, 1); flush(); scavenge() -> 2; crash(0); size(2) -> 0; scavenge() -> 0",
            "put(0, 0: 2); size(2) -> 1");
        Story.tell("all CUTS: those too that hide nothing",
            "cut(0, 0); put(1, 0: 1); cut(1, 0); flush(); scavenge() -> 2; size(2) -> 1; next(0) -> 1");
    }
}
