/** The boundary cases that promises 15 to 19 name, and 26 for take, sentence by sentence. */
public final class GroupEdgesTest {
    public static void main(String[] args) {
        promise15Bad();
        promise15Anew();
        promise16Bad();
        promise16Full();
        promise16Waiting();
        promise16Log();
        promise16Types();
        promise16Hidden();
        promise16Due();
        promise17();
        promise17Returned();
        promise18Bad();
        promise18Due();
        promise18Order();
        promise19();
        promise26();
        Due.end();
    }

    private static void promise15Bad() {
        String sentence = "BAD if g is outside 0..1 or t outside 0..8";
        Story.tell(sentence + ": g",
            "form(MIN, 8) -> BAD; form(-1, 8) -> BAD; form(2, 8) -> BAD; form(MAX, 8) -> BAD; group(0, 0) -> BAD",
            "group(1, 0) -> BAD; form(0, 8) -> 0; form(1, 8) -> 0");
        Story.tell(sentence + ": t",
            "form(0, MIN) -> BAD; form(0, -1) -> BAD; form(0, 9) -> BAD; form(0, MAX) -> BAD; group(0, 0) -> BAD",
            "take(0) -> NONE; form(0, 0) -> 0; form(0, 7) -> 0; form(0, 8) -> 0");
        Story.tell(sentence + ": a group that is there stays as it was",
            "form(0, 2); fill(2); put(0, 2: 5 6); take(0) -> 2; form(0, 9) -> BAD; form(0, -1) -> BAD",
            "form(2, 0) -> BAD", "group(0, 0) -> 3; group(0, 1) -> 1; take(0) -> 3; take(0) -> NONE",
            "answer(0, 2, true) -> true");
    }

    private static void promise15Anew() {
        String sentence = "nothing TAKEN, WAITING or PARKED, the cursor at FLUSHED; that is its KEPT state too";
        String busy = "form(#, 8); fill(4); 3 * take(#); answer(#, 0, false); take(#); answer(#, 0, false); take(#);"
            + "answer(#, 0, false); answer(#, 1, false);"
            + "group(#, 0) -> 3; group(#, 1) -> 1; group(#, 2) -> 1; group(#, 3) -> 1;";
        Story.tellEach(sentence + ": FLUSHED 0", 2,
            busy, "form(#, 8) -> 0; group(#, 0) -> 0; group(#, 1) -> 0; group(#, 2) -> 0; group(#, 3) -> 0",
            "answer(#, 2, true) -> false; tick(100) -> 0; take(#) -> 0; answer(#, 0, false); group(#, 2) -> 1");
        Story.tellEach(sentence + ": behind a flush", 2,
            busy, "flush(); size(3) -> 1; form(#, 8) -> 4; size(3) -> 4; group(#, 0) -> 4; group(#, 1) -> 0",
            "group(#, 2) -> 0; group(#, 3) -> 0", "take(#) -> NONE; crash(0); group(#, 0) -> 4; group(#, 1) -> 0",
            "group(#, 2) -> 0; take(#) -> NONE; put(0, 0: 1); take(#) -> 4");
        Story.tell(sentence + ": FLUSHED below the end",
            "fill(2); flush(); fill(2); form(0, 8) -> 2; take(0) -> 2; group(0, 0) -> 3; crash(9); group(0, 0) -> 2",
            "group(0, 2) -> 0; take(0) -> 2");
        Story.tell("formed anew for events of type t: not of the type it had",
            "form(0, 1); put(0, 1: 5); put(0, 2: 6); form(0, 2); take(0) -> 1; take(0) -> NONE; form(0, 8)",
            "take(0) -> 0; form(0, 3); take(0) -> NONE");
        Story.tell("Group g is formed anew: not the other",
            "form(0, 8); form(1, 8); fill(4); 2 * take(0); 2 * take(1); answer(1, 0, false); form(0, 8)",
            "group(1, 0) -> 2; group(1, 1) -> 1; group(1, 2) -> 1");
        Story.tell("formed anew: how often it was taken begins anew",
            "form(0, 8); put(0, 0: 1); take(0); answer(0, 0, false); take(0); answer(0, 0, false); form(0, 8)",
            "take(0); answer(0, 0, false); group(0, 2) -> 1; group(0, 3) -> 0");
    }

    private static void promise16Bad() {
        Story.tell("BAD if g is outside 0..1",
            "form(0, 8); form(1, 8); fill(2); take(MIN) -> BAD; take(-1) -> BAD; take(2) -> BAD; take(MAX) -> BAD",
            "take(0) -> 0; take(1) -> 0");
        Story.tell("NONE if it was never formed",
            "fill(2); take(0) -> NONE; take(1) -> NONE; form(1, 8); take(0) -> NONE; take(1) -> 0",
            "group(0, 0) -> BAD");
    }

    private static void promise16Full() {
        String sentence = "FULL if 6 are TAKEN";
        Story.tellEach(sentence, 2,
            "form(#, 8); fill(9); take(#) -> 0; take(#) -> 1; take(#) -> 2; take(#) -> 3; take(#) -> 4",
            "take(#) -> 5; take(#) -> FULL; group(#, 0) -> 6; group(#, 1) -> 6", "answer(#, 5, true); take(#) -> 6",
            "take(#) -> FULL; answer(#, 0, true); take(#) -> 7; take(#) -> FULL");
        Story.tell(sentence + ": where one waits",
            "form(0, 8); fill(7); 6 * take(0); answer(0, 3, false); group(0, 2) -> 1; take(0) -> 3; take(0) -> FULL",
            "answer(0, 0, true); take(0) -> 6; take(0) -> FULL");
        Story.tell(sentence + ": before NONE",
            "form(0, 8); fill(6); 6 * take(0); take(0) -> FULL; answer(0, 0, true); take(0) -> NONE");
        Story.tell(sentence + ": 5 and no event",
            "form(0, 8); fill(5); 5 * take(0); group(0, 1) -> 5; take(0) -> NONE");
        Story.tell(sentence + ": HIDDEN ones too",
            "form(0, 8); fill(7); 6 * take(0); cut(0, 7); take(0) -> FULL; group(0, 0) -> 6; answer(0, 0, true)",
            "take(0) -> NONE; group(0, 0) -> 8");
    }

    private static void promise16Waiting() {
        String sentence = "else the first of the WAITING ones, else the first EVENT of its type at its cursor"
            + " or behind it";
        Story.tell(sentence,
            "form(0, 8); fill(5); 3 * take(0); answer(0, 2, false); answer(0, 0, false); take(0) -> 2",
            "group(0, 0) -> 3; take(0) -> 0; group(0, 0) -> 3; take(0) -> 3; group(0, 0) -> 4");
        Story.tell(sentence + ": six wait",
            "form(0, 8); fill(8); 6 * take(0); answer(0, 5, false); answer(0, 4, false); answer(0, 3, false)",
            "answer(0, 2, false); answer(0, 1, false); answer(0, 0, false)", "group(0, 2) -> 6; group(0, 1) -> 0",
            "take(0) -> 5; take(0) -> 4; take(0) -> 3; take(0) -> 2; take(0) -> 1; take(0) -> 0; take(0) -> FULL",
            "group(0, 2) -> 0");
        Story.tell("It is TAKEN (once more)",
            "form(0, 8); fill(1); take(0); group(0, 1) -> 1; answer(0, 0, false); group(0, 1) -> 0; take(0) -> 0",
            "group(0, 1) -> 1; group(0, 2) -> 0; answer(0, 0, false); group(0, 2) -> 1", "take(0) -> 0",
            "answer(0, 0, false); group(0, 3) -> 1");
    }

    private static void promise16Log() {
        String sentence = "(the cursor is then behind that one, or the number of records if there is none)";
        Story.tell(sentence,
            "form(0, 8); fill(3); take(0) -> 0; group(0, 0) -> 1; take(0) -> 1; group(0, 0) -> 2; take(0) -> 2",
            "group(0, 0) -> 3; take(0) -> NONE; group(0, 0) -> 3");
        Story.tell(sentence + ": at its cursor, not before it",
            "fill(2); flush(); form(0, 8) -> 2; fill(1); take(0) -> 2; group(0, 0) -> 3");
        Story.tell(sentence + ": CUTS are passed over",
            "form(0, 8); cut(0, 0); fill(1); cut(0, 0); take(0) -> 1; group(0, 0) -> 2; take(0) -> NONE",
            "group(0, 0) -> 3");
        Story.tell(sentence + ": those too that are not flushed or that were emitted",
            "form(0, 8); define(0: VALUE, EMIT 8); put(0, 0: 5); flush(); work(0, 1); take(0) -> 0; take(0) -> 1",
            "group(0, 0) -> 2");
    }

    private static void promise16Types() {
        for (int t = 0; t < 8; t++) {
            Story story = new Story();
            String sentence = "the first EVENT of its type: " + t;
            story.goOn(sentence, "form(0, " + t + "); form(1, 8)");
            for (int other = 7; other >= 0; other--) {
                story.goOn(sentence, "put(0, " + other + ": 9) -> " + (7 - other));
            }
            story.goOn(sentence, "take(0) -> " + (7 - t) + "; group(0, 0) -> " + (8 - t));
            story.goOn(sentence, "take(0) -> NONE; group(0, 0) -> 8");
            story.goOn(sentence, "take(1) -> 0; take(1) -> 1; take(1) -> 2; take(1) -> 3; take(1) -> 4; take(1) -> 5");
            story.goOn(sentence, "group(1, 0) -> 6; answer(1, 0, true); take(1) -> 6; take(1) -> FULL");
        }
        Story.tell("the first EVENT of its type: none",
            "form(0, 3); put(0, 2: 1); put(0, 4: 2); cut(0, 0); take(0) -> NONE; group(0, 0) -> 3; group(0, 1) -> 0",
            "put(0, 3: 3); take(0) -> 3");
        Story.tell("the first EVENT of its type: a CUT has none, nor the type 0",
            "form(0, 0); cut(0, 0); cut(1, 0); take(0) -> NONE; group(0, 0) -> 2");
    }

    private static void promise16Hidden() {
        String sentence = "HIDDEN ones are passed over, and are WAITING no more";
        Story.tell(sentence + ": of the log",
            "form(0, 8); fill(4); cut(0, 2); take(0) -> 2; group(0, 0) -> 3; group(0, 1) -> 1");
        Story.tell(sentence + ": version below, at and above that of the CUT",
            "form(0, 8); fill(3); 3 * take(0); answer(0, 0, false); answer(0, 1, false); answer(0, 2, false)",
            "cut(0, 1); take(0) -> 1; take(0) -> 2; take(0) -> NONE");
        Story.tell(sentence + ": of the WAITING ones, up to one that is not HIDDEN",
            "form(0, 8); fill(4); put(1, 0: 9); 5 * take(0); answer(0, 0, false); answer(0, 1, false)",
            "answer(0, 4, false)", "cut(0, 3); group(0, 2) -> 3; take(0) -> 4; group(0, 2) -> 0; group(0, 1) -> 3",
            "group(0, 0) -> 5");
        Story.tell(sentence + ": all of the WAITING ones, then of the log",
            "form(0, 8); fill(4); 2 * take(0); answer(0, 0, false); answer(0, 1, false); cut(0, 3); take(0) -> 3",
            "group(0, 0) -> 4; group(0, 1) -> 1; group(0, 2) -> 0");
        Story.tell(sentence + ": one behind that which is taken is not passed over yet",
            "form(0, 8); fill(1); put(1, 0: 9); put(0, 0: 1); 3 * take(0); answer(0, 1, false); answer(0, 0, false)",
            "cut(0, 1); take(0) -> 1; group(0, 2) -> 1; take(0) -> NONE; group(0, 2) -> 0");
        Story.tell(sentence + ": a TAKEN one stays TAKEN",
            "form(0, 8); fill(2); take(0); cut(0, 2); group(0, 1) -> 1; take(0) -> NONE; group(0, 1) -> 1",
            "answer(0, 0, true) -> true; group(0, 1) -> 0");
        Story.tell(sentence + ": a TAKEN one is RETURNED by tick",
            "form(0, 8); fill(2); take(0); cut(0, 2); tick(10) -> 1; group(0, 2) -> 1; take(0) -> NONE",
            "group(0, 2) -> 0; group(0, 3) -> 0");
        Story.tell(sentence + ": one whose CUT was lost can be taken again",
            "form(0, 8); fill(2); take(0); answer(0, 0, false); flush(); cut(0, 2); take(0) -> NONE",
            "group(0, 2) -> 0; crash(0); group(0, 2) -> 1; take(0) -> 0; take(0) -> 1");
    }

    private static void promise16Due() {
        String sentence = "DUE at TIME + 10";
        Story.tell(sentence + ": 9", "form(0, 8); fill(2); take(0); tick(9) -> 0; group(0, 1) -> 1");
        Story.tell(sentence + ": 10",
            "form(0, 8); fill(2); take(0); tick(10) -> 1; group(0, 1) -> 0; group(0, 2) -> 1");
        Story.tell(sentence + ": 11", "form(0, 8); fill(2); take(0); tick(11) -> 1; group(0, 1) -> 0");
        Story.tell(sentence + ": of the last take",
            "form(0, 8); fill(2); tick(3); take(0); tick(6) -> 0; answer(0, 0, false); take(0) -> 0; tick(4) -> 0",
            "tick(5) -> 0; tick(1) -> 1");
        Story.tell(sentence + ": far on",
            "form(0, 8); fill(2); 50 * tick(100) -> 0; take(0); tick(9) -> 0; tick(1) -> 1");
        Story.tell(sentence + ": a refused take does not put it off",
            "form(0, 8); fill(6); 6 * take(0); tick(5); take(0) -> FULL; tick(5) -> 6");
    }

    private static void promise17() {
        String sentence = "False if there is none";
        Story.tell(sentence + ": no group",
            "form(0, 8); fill(2); take(0); answer(MIN, 0, true) -> false; answer(-1, 0, true) -> false",
            "answer(2, 0, true) -> false; answer(MAX, 0, false) -> false; answer(1, 0, true) -> false",
            "group(0, 1) -> 1; group(0, 2) -> 0; answer(0, 0, true) -> true");
        Story.tell(sentence + ": no position",
            "form(0, 8); fill(3); take(0); take(0); answer(0, MIN, true) -> false; answer(0, -1, true) -> false",
            "answer(0, 2, true) -> false; answer(0, 3, false) -> false; answer(0, MAX, false) -> false",
            "group(0, 1) -> 2; group(0, 2) -> 0; answer(0, 1, true) -> true; answer(0, 0, true) -> true",
            "group(0, 1) -> 0");
        Story.tell(sentence + ": it is acknowledged",
            "form(0, 8); fill(1); take(0); answer(0, 0, true) -> true; answer(0, 0, true) -> false",
            "answer(0, 0, false) -> false; group(0, 1) -> 0; group(0, 2) -> 0; take(0) -> NONE; tick(100) -> 0");
        Story.tell(sentence + ": it is WAITING",
            "form(0, 8); fill(1); take(0); answer(0, 0, false) -> true; answer(0, 0, true) -> false",
            "answer(0, 0, false) -> false; group(0, 2) -> 1; take(0) -> 0");
        Story.tell(sentence + ": it is PARKED",
            "form(0, 8); fill(1); take(0); answer(0, 0, false); take(0); answer(0, 0, false); take(0)",
            "answer(0, 0, false) -> true; answer(0, 0, true) -> false; group(0, 3) -> 1");
        Story.tell(sentence + ": the other group took it",
            "form(0, 8); form(1, 8); fill(1); take(0); answer(1, 0, true) -> false; take(1) -> 0",
            "answer(1, 0, true) -> true; group(0, 1) -> 1; answer(0, 0, true) -> true");
        Story.tell(sentence + ": what one that was removed leaves behind the row",
            "form(0, 8); fill(3); 3 * take(0); answer(0, 2, true) -> true; answer(0, 2, true) -> false",
            "answer(0, 0, true) -> true; answer(0, 0, false) -> false; answer(0, 1, true) -> true; group(0, 1) -> 0");
    }

    private static void promise17Returned() {
        Story.tell("acknowledged: it is TAKEN no more (good)",
            "form(0, 8); fill(1); take(0); answer(0, 0, false); take(0); answer(0, 0, false); take(0)",
            "answer(0, 0, true) -> true; group(0, 1) -> 0; group(0, 2) -> 0; group(0, 3) -> 0");
        Story.tellEach("each of six can be acknowledged", 6,
            "form(0, 8); fill(7); 6 * take(0); answer(0, #, true) -> true; group(0, 1) -> 5; group(0, 2) -> 0",
            "answer(0, #, true) -> false; take(0) -> 6; take(0) -> FULL; tick(10) -> 6");
        Story.tellEach("each of six can be RETURNED", 6,
            "form(0, 8); fill(7); 6 * take(0); answer(0, #, false) -> true; group(0, 1) -> 5; group(0, 2) -> 1",
            "take(0) -> #; group(0, 1) -> 6; take(0) -> FULL; tick(10) -> 6");
        String three = "form(0, 8); fill(3); take(0); tick(1); take(0); tick(1); take(0);";
        Story.tell("the others keep their DUE times",
            three, "answer(0, 0, true); tick(8) -> 0; tick(1) -> 1; tick(1) -> 1; take(0) -> 1; take(0) -> 2");
        Story.tell("the others keep their DUE times",
            three, "answer(0, 1, true); tick(8) -> 1; tick(1) -> 0; tick(1) -> 1; take(0) -> 0; take(0) -> 2");
        Story.tell("the others keep their DUE times",
            three, "answer(0, 2, false); tick(8) -> 1; tick(1) -> 1; tick(1) -> 0; take(0) -> 2; take(0) -> 0",
            "take(0) -> 1");
    }

    private static void promise18Bad() {
        String sentence = "TIME goes on by d (0..100, else BAD)";
        Story.tell(sentence,
            "form(0, 8); fill(1); take(0); tick(MIN) -> BAD; tick(-1) -> BAD; tick(101) -> BAD; tick(MAX) -> BAD",
            "group(0, 1) -> 1; tick(0) -> 0; tick(9) -> 0; tick(-1) -> BAD; tick(1) -> 1");
        Story.tell(sentence + ": 100",
            "form(0, 8); fill(1); take(0); tick(100) -> 1; take(0) -> 0; tick(9) -> 0; tick(1) -> 1");
        Story.tell(sentence + ": 99", "form(0, 8); fill(1); take(0); tick(99) -> 1");
        Story.tell(sentence + ": 0",
            "tick(0) -> 0; form(0, 8); fill(1); take(0); 20 * tick(0) -> 0; tick(10) -> 1; tick(0) -> 0");
        Story.tell(sentence + ": without groups", "tick(100) -> 0; tick(0) -> 0; tick(101) -> BAD");
        Story.tell(sentence + ": it goes on where nothing is DUE",
            "tick(100); tick(7); form(1, 8); fill(1); take(1); tick(9) -> 0; tick(1) -> 1");
    }

    private static void promise18Due() {
        String sentence = "events that are TAKEN and whose DUE time is not above TIME then are RETURNED";
        Story.tell(sentence + ": above, at and below it",
            "form(0, 8); fill(3); take(0); tick(1); take(0); tick(1); take(0); tick(9) -> 2; group(0, 1) -> 1",
            "group(0, 2) -> 2; answer(0, 2, true) -> true");
        Story.tell(sentence + ": one by one",
            "form(0, 8); fill(3); take(0); tick(1); take(0); tick(1); take(0); tick(7) -> 0; tick(1) -> 1",
            "tick(1) -> 1; tick(1) -> 1; tick(100) -> 0");
        Story.tell(sentence + ": not acknowledged, WAITING or PARKED ones",
            "form(0, 8); fill(4); 3 * take(0); answer(0, 0, true); answer(0, 1, false); tick(10) -> 1",
            "group(0, 2) -> 2; tick(10) -> 0", "take(0) -> 1; tick(10) -> 1; take(0) -> 2; tick(10) -> 1",
            "take(0) -> 1; tick(10) -> 1; group(0, 3) -> 1; tick(100) -> 0");
        Story.tell("Answers how many: six of both groups each, PARKED ones too",
            "form(0, 8); form(1, 8); fill(6); 6 * take(0); 6 * take(1); tick(10) -> 12; 6 * take(0); tick(10) -> 6",
            "6 * take(0); 6 * take(1); tick(10) -> 12", "group(0, 3) -> 6; group(0, 2) -> 0; group(1, 3) -> 0",
            "group(1, 2) -> 6; 6 * take(1); tick(10) -> 6; group(1, 3) -> 6");
    }

    private static void promise18Order() {
        String sentence = "by rising DUE times, of equal ones by rising positions";
        Story.tell(sentence + ": DUE times",
            "form(0, 8); fill(4); take(0); take(0); take(0); answer(0, 0, false); tick(1); take(0) -> 0",
            "tick(50) -> 3; take(0) -> 1; take(0) -> 2; take(0) -> 0; take(0) -> 3");
        Story.tell(sentence + ": DUE times against positions",
            "form(0, 8); fill(3); 3 * take(0); answer(0, 2, false); answer(0, 1, false); answer(0, 0, false)",
            "take(0) -> 2; tick(1); take(0) -> 1; tick(1); take(0) -> 0; tick(50) -> 3", "take(0) -> 2",
            "take(0) -> 1; take(0) -> 0");
        Story.tell(sentence + ": positions",
            "form(0, 8); fill(4); 4 * take(0); answer(0, 3, false); answer(0, 1, false); answer(0, 0, false)",
            "answer(0, 2, false); take(0) -> 3; take(0) -> 1; take(0) -> 0; take(0) -> 2; tick(10) -> 4",
            "take(0) -> 0; take(0) -> 1; take(0) -> 2; take(0) -> 3");
        Story.tell(sentence + ": behind those that wait already",
            "form(0, 8); fill(4); 4 * take(0); answer(0, 3, false); tick(10) -> 3; take(0) -> 3; take(0) -> 0",
            "take(0) -> 1; take(0) -> 2");
        Story.tell("group 0 first: each has its own row",
            "form(0, 8); form(1, 8); fill(3); 2 * take(1); 3 * take(0); tick(10) -> 5; take(0) -> 0; take(1) -> 0",
            "take(0) -> 1; take(1) -> 1; take(1) -> 2; take(0) -> 2");
    }

    private static void promise19() {
        String sentence = "BAD if g is outside 0..1, it was never formed, or what is outside";
        Story.tell(sentence,
            "group(0, 0) -> BAD; group(1, 0) -> BAD; form(1, 8); group(0, 0) -> BAD; group(0, 3) -> BAD",
            "group(1, 0) -> 0; form(0, 8); group(0, 0) -> 0", "group(MIN, 0) -> BAD; group(-1, 0) -> BAD",
            "group(2, 0) -> BAD; group(MAX, 3) -> BAD");
        Story.tellEach(sentence + ", what", 2,
            "form(#, 8); group(#, MIN) -> BAD; group(#, -1) -> BAD; group(#, 0) -> 0; group(#, 1) -> 0",
            "group(#, 2) -> 0; group(#, 3) -> 0; group(#, 4) -> BAD; group(#, MAX) -> BAD");
        Story.tell("what 0 its cursor, 1 how many are TAKEN, 2 WAITING, 3 PARKED",
            "form(0, 8); form(1, 8); fill(9); 6 * take(0); answer(0, 0, false); take(0); answer(0, 0, false)",
            "take(0); answer(0, 0, false); answer(0, 1, false); answer(0, 2, false)", "group(0, 0) -> 6",
            "group(0, 1) -> 3; group(0, 2) -> 2; group(0, 3) -> 1; group(1, 0) -> 0; group(1, 1) -> 0",
            "group(1, 2) -> 0; group(1, 3) -> 0");
        Story.tell("3 PARKED since it was formed",
            "form(0, 8); fill(2); 2 * take(0); tick(10); 2 * take(0); tick(10); 2 * take(0); group(0, 3) -> 0",
            "tick(10); group(0, 3) -> 2; flush(); group(0, 3) -> 2; form(0, 8); group(0, 3) -> 0; crash(0)",
            "group(0, 3) -> 0");
    }

    private static void promise26() {
        String sentence = "where it answers NONE because there is no event, the cursor is the number of records then";
        Story.tell(sentence,
            "form(0, 8); take(0) -> NONE; group(0, 0) -> 0; cut(0, 0); take(0) -> NONE; group(0, 0) -> 1",
            "put(0, 0: 1); take(0) -> 1; take(0) -> NONE; group(0, 0) -> 2");
        Story.tell(sentence + ": what comes then is taken",
            "form(0, 5); put(0, 1: 1); take(0) -> NONE; group(0, 0) -> 1; put(0, 5: 2); take(0) -> 1",
            "group(0, 0) -> 2");
        Story.tell(sentence + ": not where it was never formed",
            "put(0, 0: 1); take(0) -> NONE; form(0, 8) -> 0; group(0, 0) -> 0");
        Story.tell("and HIDDEN ones are WAITING no more",
            "form(0, 8); fill(6); 6 * take(0); tick(10) -> 6; group(0, 2) -> 6; cut(0, 6); group(0, 2) -> 6",
            "take(0) -> NONE; group(0, 2) -> 0; group(0, 0) -> 7; group(0, 3) -> 0", "flush(); crash(0)",
            "group(0, 2) -> 0");
    }
}
