/** Each promise once more, in runs that mix its calls with those of the other promises on one object. */
public final class MixedTest {
    public static void main(String[] args) {
        promise1NewObject();
        promise2Event();
        promise3Append();
        promise4Cut();
        promise5Flush();
        promise6Crash();
        promise6CrashOfGroups();
        promise7Scavenge();
        promise8Code();
        promise9Define();
        promise10Drop();
        promise11Work();
        promise11WorkFull();
        promise12Note();
        promise13Position();
        promise14Cell();
        promise15Form();
        promise16Take();
        promise17Answer();
        promise18Tick();
        promise19Group();
        promise20Read();
        promise21Next();
        promise22Found();
        promise23Total();
        promise24Version();
        promise25Size();
        promise26OrderAndLimits();
        Due.end();
    }

    private static void promise1NewObject() {
        Story.tell("1: what has nothing yet, and its first use",
            "flush() -> 0; scavenge() -> 0; crash(3) -> 0; tick(50) -> 0; position(0) -> NONE; take(0) -> NONE",
            "append(0, -1) -> BAD; define(0) -> BAD; next(0) -> NONE; found(4) -> 0; group(1, 0) -> BAD",
            "size(0) -> 0; size(1) -> 0; size(2) -> 0; size(3) -> 0; event(1, 5) -> true; code(END, 0) -> true",
            "append(0, -1) -> 0; define(0) -> OK; position(0) -> 0; form(1, 8) -> 0; take(1) -> 0; work(0, 20) -> 1",
            "flush() -> 1; size(3) -> 0; note(0) -> 1; flush() -> 0; size(3) -> 0; answer(1, 0, true) -> true",
            "flush() -> 0; size(3) -> 1");
        Story busy = new Story();
        busy.goOn("1: a busy object", "define(0: VALUE, SET 0) -> OK; form(0, 8) -> 0; put(0, 1: 5) -> 0; flush() -> 1;"
            + "take(0) -> 0; work(0, 1) -> 1; next(0) -> 0; event(1, 6) -> true; code(ADD, 0) -> true");
        Story.tell("1: a new one beside it",
            "size(0) -> 0; size(1) -> 0; append(0, -2) -> BAD; define(1) -> BAD; position(0) -> NONE",
            "take(0) -> NONE; found(3) -> 0; group(0, 1) -> BAD; version(0) -> 0; event(2, 9) -> true",
            "append(0, -1) -> 0");
        busy.goOn("1: the busy one goes on", "found(3) -> 5; cell(0, 0, 0) -> 5; group(0, 1) -> 1;"
            + "append(0, 0) -> 1; define(1) -> FAULTY+0; total(8, 0, 9) -> 11");
    }

    private static void promise2Event() {
        Story.tell("2: the draft goes on through all calls but append and crash",
            "form(0, 8) -> 0; define(0: VALUE, EMIT 9) -> OK; put(0, 1: 5) -> 0; event(2, 7) -> true",
            "work(0, 1) -> 1; event(3, 8) -> true; take(0) -> 0; answer(0, 0, true) -> true; cut(0, 1) -> 2",
            "flush() -> 3; note(0) -> 1; scavenge() -> 0; event(8, 1) -> false; event(4, 9) -> true; tick(10) -> 0",
            "drop(0) -> OK; code(END, 0) -> true; define(0) -> OK; read(1, 0) -> 1; event(5, 10) -> true",
            "event(6, 11) -> false; size(0) -> 3; append(2, -1) -> 3; size(0) -> 7; total(8, 3, 6) -> 34",
            "next(3) -> 3; found(2) -> 2; next(6) -> 6; found(2) -> 5; found(3) -> 10; take(0) -> 1; take(0) -> 3",
            "take(0) -> 4");
        Story.tell("2: it has what was drafted behind the crash alone",
            "put(0, 0: 1) -> 0; flush() -> 1; event(1, 2); event(1, 3); code(VALUE, 0); crash(0) -> 0",
            "3 * event(1, 4) -> true; event(7, 5) -> true; event(1, 6) -> false; append(0, 0) -> 1; version(0) -> 5",
            "total(8, 0, 9) -> 18; total(7, 0, 9) -> 5; event(0, 0) -> true");
    }

    private static void promise3Append() {
        Story.tell("3: behind emitted, hidden and lost events of the stream",
            "define(0: VALUE, EMIT 8) -> OK; put(0, 2: 4 5) -> 0; work(0, 2) -> 2; version(1) -> 2; event(3, 6)",
            "append(1, 0) -> CONFLICT; append(1, 1) -> 4; flush() -> 5; cut(1, 3) -> 5; event(3, 7); event(3, 8)",
            "append(1, -1) -> CONFLICT; append(1, 2) -> 6; next(2) -> 6; found(1) -> 3; crash(2) -> 2; event(3, 9)",
            "append(1, 4) -> CONFLICT; append(1, 2) -> 6; read(1, 3) -> 6; found(3) -> 9; append(1, -2) -> BAD");
        Story.tell("3: FULL until scavenge makes room, the draft waits",
            "fill(20); define(1: CELL 0, PUSH 1, ADD, SET 0) -> OK; cut(0, 20) -> 20; fill(16); event(5, 1)",
            "event(5, 2); event(5, 3); event(5, 4); append(3, -1) -> FULL; append(3, 0) -> CONFLICT; flush() -> 37",
            "append(3, -1) -> FULL; scavenge() -> 0; work(1, 20) -> 20; note(1) -> 20; append(3, -1) -> FULL",
            "flush() -> 0; scavenge() -> 20; append(3, -1) -> 37; size(0) -> 41; size(2) -> 21; append(3, 3) -> BAD",
            "total(5, 0, 99) -> 10; work(1, 20) -> 20; cell(1, 0, 0) -> 36; cell(1, 3, 0) -> 3; work(1, 20) -> 1");
    }

    private static void promise4Cut() {
        Story.tell("4: what it hides, from whom, and what stays",
            "put(0, 1: 1 2 3) -> 0; form(0, 8) -> 0; define(0: CELL 0, VALUE, ADD, SET 0) -> OK; take(0) -> 0",
            "cut(0, 2) -> 3; read(0, 1) -> NONE; read(0, 2) -> 2; take(0) -> 2; work(0, 20) -> 4; cell(0, 0, 0) -> 6",
            "total(8, 0, 9) -> 3; version(0) -> 3; flush() -> 4; event(1, 9); cut(0, 4) -> BAD; append(0, 2) -> 4",
            "cut(0, 4) -> 5; next(0) -> NONE; crash(1) -> 1; next(0) -> 2; cut(0, 5) -> BAD; cut(0, 4) -> 5",
            "read(0, 3) -> NONE; group(0, 2) -> 2; take(0) -> NONE; group(0, 0) -> 6; group(0, 2) -> 0");
        Story.tell("4: FULL by emitted events, and none behind scavenge",
            "put(2, 1: 1) -> 0; cut(2, 1) -> 1; flush() -> 2; define(0: VALUE, EMIT 8) -> OK; put(0, 1: 3) -> 2",
            "work(0, 20) -> 20; work(0, 20) -> FULL; size(0) -> 40; cut(1, 38) -> BAD; cut(1, 37) -> FULL",
            "cut(5, 0) -> BAD; cut(0, -1) -> BAD; scavenge() -> 2; cut(1, 37) -> 40; next(0) -> 2; next(3) -> NONE",
            "cut(0, 0) -> 41; cut(0, 0) -> FULL; work(0, 1) -> FULL; read(1, 37) -> NONE");
    }

    private static void promise5Flush() {
        Story.tell("5: what a crash then gives back",
            "define(0: CELL 0, VALUE, ADD, SET 0) -> OK; define(1: VALUE, EMIT 16) -> OK; form(0, 8) -> 0",
            "form(1, 3) -> 0; put(0, 3: 4 5) -> 0; work(0, 1) -> 1; note(0) -> 1; work(0, 1) -> 1; work(1, 1) -> 1",
            "take(0) -> 0; take(1) -> 0; take(1) -> 1; answer(1, 0, false) -> true; cut(2, 1) -> 3; flush() -> 4",
            "flush() -> 0; size(1) -> 4; size(3) -> 0; put(0, 3: 6) -> 4; work(0, 20) -> 3; cell(0, 0, 0) -> 15",
            "cell(0, 2, 0) -> 4; take(1) -> 0; answer(1, 1, true) -> true; take(0) -> 1; crash(0) -> 1",
            "cell(0, 0, 0) -> 4; cell(0, 2, 0) -> 0; position(0) -> 1; position(1) -> 0; group(0, 0) -> 1",
            "group(0, 2) -> 1; group(1, 0) -> 2; group(1, 2) -> 2; take(1) -> 0; take(1) -> 1; take(0) -> 0",
            "work(1, 2) -> 2; size(0) -> 5; version(2) -> 2; read(2, 1) -> 4; found(4) -> 1; found(5) -> 1",
            "flush() -> 1");
    }

    private static void promise6Crash() {
        Story.tell("6: spared, lost and emitted again",
            "define(0: VALUE, EMIT 8, PUSH 1, EMIT 8) -> OK; form(0, 8) -> 0; put(0, 1: 5) -> 0; flush() -> 1",
            "work(0, 1) -> 1; note(0) -> 1; put(2, 2: 6 7 8) -> 3; cut(2, 1) -> 6; take(0) -> 0; event(1, 1)",
            "code(PUSH, 1); next(1) -> 1; found(3) -> 5; crash(-1) -> BAD; found(3) -> 5; crash(4) -> 4",
            "size(0) -> 3; size(1) -> 3; found(3) -> 0; append(0, -2) -> BAD; define(1) -> BAD; position(0) -> 0",
            "group(0, 1) -> 0; group(0, 0) -> 0; version(2) -> 0; work(0, 1) -> 1; size(0) -> 3; work(0, 1) -> 1",
            "size(0) -> 5; crash(1) -> 1; size(0) -> 4; position(0) -> 0; work(0, 2) -> 2; size(0) -> 5",
            "read(1, 3) -> 4; found(3) -> 1; found(5) -> 1; take(0) -> 0; take(0) -> 1; flush() -> 1; crash(0) -> 0",
            "group(0, 2) -> 2; version(1) -> 4");
        Story.tell("6: a lost CUT hides no more, and its place is taken anew",
            "put(1, 4: 10 20) -> 0; flush() -> 2; cut(1, 2) -> 2; put(1, 4: 40) -> 3; total(4, 0, 9) -> 40",
            "crash(0) -> 2; total(4, 0, 9) -> 30; version(1) -> 2; cut(1, 1) -> 2; put(1, 4: 50) -> 3; flush() -> 2",
            "total(8, 0, 9) -> 70; scavenge() -> 2; crash(0) -> 0; size(2) -> 2; read(1, 2) -> 3; read(1, 0) -> NONE");
    }

    private static void promise6CrashOfGroups() {
        Story.tell("6: groups between two flushes",
            "form(0, 2) -> 0; form(1, 8) -> 0; put(0, 2: 1 2 3) -> 0; put(0, 3: 4) -> 3; 3 * take(0); 4 * take(1)",
            "answer(0, 2, false) -> true; answer(0, 0, false) -> true; take(0) -> 2; answer(0, 2, false) -> true",
            "answer(1, 1, true) -> true; flush() -> 4; take(0) -> 0; take(0) -> 2; answer(0, 2, false) -> true",
            "group(0, 3) -> 1; answer(0, 1, true) -> true; tick(30) -> 4; group(1, 2) -> 3; crash(5) -> 0",
            "group(0, 0) -> 3; group(0, 1) -> 0; group(0, 2) -> 3; group(0, 3) -> 1; group(1, 2) -> 3; take(0) -> 0",
            "take(0) -> 1; take(0) -> 2; take(1) -> 0; take(1) -> 2; take(1) -> 3; take(1) -> NONE; tick(9) -> 0",
            "tick(1) -> 6; group(0, 3) -> 2; group(0, 2) -> 2; group(1, 3) -> 0; take(0) -> 0; answer(0, 0, false)",
            "group(0, 3) -> 3; take(0) -> 1; answer(0, 1, false) -> true; group(0, 3) -> 4; group(0, 2) -> 0");
        Story.tell("6: WAITING by rising positions, whatever row they were in",
            "form(1, 8) -> 0; fill(6); 6 * take(1); answer(1, 5, false); answer(1, 2, false); answer(1, 0, false)",
            "define(0: END) -> OK; take(1) -> 5; group(1, 1) -> 4; group(1, 2) -> 2; flush() -> 6; tick(100) -> 4",
            "cut(0, 3) -> 6; take(1) -> 3; crash(0) -> 1; group(1, 2) -> 6; size(3) -> 0; take(1) -> 0; take(1) -> 1",
            "take(1) -> 2; take(1) -> 3; take(1) -> 4; take(1) -> 5; take(1) -> FULL");
    }

    private static void promise7Scavenge() {
        Story.tell("7: held back by a projection, then by a group, then by neither",
            "define(0: VALUE, SET 1) -> OK; form(1, 0) -> 0; fill(6); cut(0, 4) -> 6; scavenge() -> 0; flush() -> 7",
            "size(3) -> 0; work(0, 20) -> 7; note(0) -> 7; take(1) -> 4; answer(1, 4, true) -> true; scavenge() -> 0",
            "flush() -> 0; size(3) -> 5; scavenge() -> 4; size(2) -> 3; scavenge() -> 0; take(1) -> 5",
            "cut(0, 6) -> 7; flush() -> 1; size(3) -> 5; scavenge() -> 1; answer(1, 5, true) -> true; drop(0) -> OK",
            "flush() -> 0; size(3) -> 6; scavenge() -> 1; take(1) -> NONE; flush() -> 0; size(3) -> 8",
            "scavenge() -> 2; size(2) -> 0; size(0) -> 8; version(0) -> 6; event(0, 9); append(0, 4) -> CONFLICT",
            "append(0, 5) -> 8; read(0, 6) -> 8");
        Story.tell("7: a CUT from FLUSHED on takes nothing away, not even where LOW is above",
            "put(0, 0: 1 2) -> 0; put(1, 0: 3) -> 2; cut(1, 1) -> 3; flush() -> 4; cut(0, 2) -> 4; next(0) -> NONE",
            "scavenge() -> 2; size(2) -> 3; crash(0) -> 1; next(0) -> 0; read(0, 1) -> 1; cut(0, 1) -> 4",
            "crash(1) -> 0; scavenge() -> 2; size(2) -> 1; next(0) -> 1; total(8, 0, 9) -> 2");
    }

    private static void promise8Code() {
        Story.tell("8: the draft of a program goes on through all calls but define and crash",
            "code(VALUE, 0) -> true; put(0, 1: 5) -> 0; flush() -> 1; code(14, 0) -> false; code(-1, 0) -> false",
            "take(0) -> NONE; code(SET, 1) -> true; scavenge() -> 0; define(3) -> BAD; define(1) -> OK",
            "work(1, 5) -> 0; put(0, 1: 6) -> 1; work(1, 5) -> 1; cell(1, 0, 1) -> 6; 14 * code(PUSH, 1) -> true",
            "code(END, 0) -> false; work(1, 1) -> 0; drop(0) -> NONE; note(1) -> 2; define(2) -> FAULTY+4",
            "define(2) -> BAD; code(END, 0) -> true; crash(0) -> 1; define(2) -> BAD; code(END, 0) -> true",
            "define(2) -> OK; position(2) -> 1; position(1) -> 1; cell(1, 0, 1) -> 0");
        Story.tell("8: one program runs while the next is drafted",
            "define(0: TYPE, SET 0) -> OK; put(0, 6: 1) -> 0; code(VALUE, 0) -> true; work(0, 1) -> 1",
            "cell(0, 0, 0) -> 6; code(EMIT, 14) -> true; put(0, 7: 2) -> 1; work(0, 1) -> 1; cell(0, 0, 0) -> 7",
            "size(0) -> 2; define(0) -> OK; cell(0, 0, 0) -> 0; work(0, 2) -> 2; size(0) -> 4; read(1, 1) -> 3",
            "found(2) -> 6; found(3) -> 2; found(5) -> 1");
    }

    private static void promise9Define() {
        Story.tell("9: FAULTY leaves the projection and its NOTED state, OK begins anew at FLUSHED",
            "define(0: CELL 0, VALUE, ADD, SET 0) -> OK; put(1, 2: 3 4) -> 0; flush() -> 2; work(0, 20) -> 2",
            "cell(0, 1, 0) -> 7; note(0) -> 2; define(0: ADD) -> FAULTY+0; cell(0, 1, 0) -> 7; position(0) -> 2",
            "flush() -> 0; size(3) -> 2; put(1, 2: 5) -> 2; work(0, 1) -> 1; cell(0, 1, 0) -> 12",
            "define(0: CELL 0, VALUE, SUB, SET 0) -> OK; position(0) -> 2; cell(0, 1, 0) -> 0; crash(9) -> 0",
            "position(0) -> 2; work(0, 20) -> 1; cell(0, 1, 0) -> -5; size(3) -> 2; form(0, 8) -> 3",
            "define(1: TYPE, EMIT 12, JUMP 4, ADD, END) -> OK; position(1) -> 3; position(0) -> 3; define(0) -> BAD");
        Story.tell("9: each projection has its own program, cells and position",
            "define(0: VALUE, SET 0) -> OK; put(0, 1: 5) -> 0; flush() -> 1; define(1: VALUE, DUP, ADD, SET 0) -> OK",
            "put(0, 1: 6) -> 1; flush() -> 1; define(2: VALUE, DUP, MUL, SET 0) -> OK; put(0, 1: 7) -> 2",
            "work(0, 20) -> 3; work(1, 20) -> 2; work(2, 20) -> 1; cell(0, 0, 0) -> 7; cell(1, 0, 0) -> 14",
            "cell(2, 0, 0) -> 49; define(1: SET 2) -> FAULTY+0; define(1: END) -> OK; position(1) -> 2; size(3) -> 0",
            "cell(0, 0, 0) -> 7; cell(1, 0, 0) -> 0; cell(2, 0, 0) -> 49; drop(0) -> OK; size(3) -> 2");
        Story.tell("9: CHECKED between other calls",
            "define(0: VALUE, ZERO 4, PUSH 1, JUMP 5, PUSH 2, SET 0) -> OK; put(0, 1: 0 9) -> 0; work(0, 1) -> 1",
            "cell(0, 0, 0) -> 2; work(0, 1) -> 1; cell(0, 0, 0) -> 1",
            "define(0: VALUE, ZERO 3, PUSH 1, PUSH 2, SET 0) -> FAULTY+3; cell(0, 0, 0) -> 1; flush() -> 2",
            "define(0: JUMP 3, EMIT 39, CELL 1, END, EMIT 40) -> FAULTY+4; define(0: JUMP 0) -> FAULTY+0",
            "define(0: JUMP 3, ADD, SET 1, END, SET 2) -> FAULTY+4; define(0: END, ZERO 3) -> FAULTY+1",
            "position(0) -> 2; cell(0, 0, 0) -> 1; size(3) -> 0; define(0: VALUE, ZERO 2) -> OK; cell(0, 0, 0) -> 0",
            "size(3) -> 2; put(0, 1: 0 1) -> 2; work(0, 20) -> 2");
        Story.tell("9: the stack is empty for each event",
            "define(1: PUSH 1, PUSH 2, PUSH 3, VALUE, SET 0) -> OK; put(0, 1: 8 9) -> 0; work(1, 1) -> 1",
            "cell(1, 0, 0) -> 8; note(1) -> 1; work(1, 1) -> 1; cell(1, 0, 0) -> 9; flush() -> 2; crash(0) -> 0",
            "work(1, 20) -> 1; cell(1, 0, 0) -> 9");
        Story.tell("9: what was NOTED before goes with the program that it was NOTED for",
            "define(0: VALUE, SET 0) -> OK; put(0, 1: 5) -> 0; work(0, 1) -> 1; note(0) -> 1; define(0: END) -> OK",
            "flush() -> 1; size(3) -> 0; crash(0) -> 0; position(0) -> 0; cell(0, 0, 0) -> 0");
    }

    private static void promise10Drop() {
        Story.tell("10: gone from all calls, from LOW and from crashes; what it emitted stays",
            "define(0: VALUE, EMIT 8) -> OK; define(1: VALUE, SET 0) -> OK; put(0, 1: 5) -> 0; work(0, 1) -> 1",
            "note(0) -> 1; flush() -> 2; size(3) -> 0; drop(1) -> OK; size(3) -> 1; drop(1) -> NONE",
            "position(1) -> NONE; cell(1, 0, 0) -> 0; work(1, 1) -> NONE; note(1) -> NONE; drop(3) -> BAD",
            "work(0, 1) -> 1; note(0) -> 2; drop(0) -> OK; flush() -> 1; size(3) -> 3; crash(0) -> 0",
            "position(0) -> NONE; read(1, 1) -> 2; found(4) -> 0; found(5) -> 1; define(0: VALUE, EMIT 8) -> OK",
            "position(0) -> 3; drop(0) -> OK; drop(0) -> NONE");
        Story.tell("10: it takes no draft along, and another goes on",
            "define(2: CELL 0, VALUE, ADD, SET 0) -> OK; define(1: END) -> OK; event(1, 5); code(VALUE, 0)",
            "drop(1) -> OK; append(0, -1) -> 0; code(SET, 1) -> true; work(2, 1) -> 1; cell(2, 0, 0) -> 5",
            "define(1) -> OK; work(1, 1) -> 1; cell(1, 0, 1) -> 5; cell(1, 0, 0) -> 0");
    }

    private static void promise11Work() {
        Story.tell("11: on events, CUTS, HIDDEN and emitted ones, at most n",
            "define(0: TYPE, PUSH 3, LESS, ZERO 7, VALUE, EMIT 35, END, CELL 1, VALUE, ADD, SET 1) -> OK",
            "put(0, 1: 10) -> 0; put(1, 5: 7) -> 1; cut(0, 1) -> 2; put(0, 2: 20) -> 3; put(1, 5: 8) -> 4",
            "work(0, 2) -> 2; size(0) -> 6; position(0) -> 2; cell(0, 1, 1) -> 7; flush() -> 6; form(0, 3) -> 6",
            "work(0, 3) -> 3; size(0) -> 7; cell(0, 1, 1) -> 15; cell(0, 0, 1) -> 0; take(0) -> 6; work(0, 20) -> 2",
            "cell(0, 4, 1) -> 30; work(0, 20) -> 0; crash(0) -> 1; position(0) -> 0; cell(0, 4, 1) -> 0",
            "work(0, 20) -> 7; size(0) -> 7; cell(0, 4, 1) -> 30; read(4, 0) -> 5; found(5) -> 0; read(4, 1) -> 6",
            "found(5) -> 3; found(4) -> 0; take(0) -> 6; work(0, 21) -> BAD; work(1, 20) -> NONE");
    }

    private static void promise11WorkFull() {
        Story.tell("11: FULL, and on from there when there is room",
            "define(2: VALUE, EMIT 16, TYPE, EMIT 24) -> OK; fill(11); cut(0, 11) -> 11; work(2, 20) -> FULL",
            "position(2) -> 15; size(0) -> 40; work(2, 1) -> FULL; note(2) -> 15; flush() -> 40; size(3) -> 15",
            "scavenge() -> 12; size(2) -> 28; work(2, 20) -> FULL; position(2) -> 21; crash(0) -> 12",
            "position(2) -> 15; work(2, 6) -> 6; size(0) -> 52; work(2, 1) -> FULL; drop(2) -> OK",
            "work(2, 1) -> NONE; work(3, 1) -> BAD; work(2, 21) -> BAD; work(2, 0) -> BAD");
        Story.tell("11: FULL at the second EMIT: as before the record, but what was appended stays",
            "put(4, 1: 1 2) -> 0; cut(4, 2) -> 2; flush() -> 3",
            "define(0: VALUE, SET 0, CELL 1, PUSH 1, ADD, SET 1, VALUE, ZERO 12, PUSH 1, EMIT 8, PUSH 2, EMIT 9) -> OK",
            "put(0, 1: 0 5) -> 3; fill(34); size(2) -> 39; work(0, 1) -> 1; cell(0, 0, 1) -> 1; work(0, 1) -> FULL",
            "size(0) -> 40; cell(0, 0, 0) -> 0; cell(0, 0, 1) -> 1; position(0) -> 4; note(0) -> 4; scavenge() -> 3",
            "work(0, 1) -> 1; size(0) -> 41; cell(0, 0, 0) -> 5; cell(0, 0, 1) -> 2; read(1, 0) -> 39; found(3) -> 1",
            "read(1, 1) -> 40; found(2) -> 1; found(3) -> 2; found(5) -> 4; version(1) -> 2");
    }

    private static void promise12Note() {
        Story.tell("12: the state as it was then, once it is flushed, and gone with a crash",
            "define(1: CELL 1, PUSH 1, ADD, SET 1) -> OK; put(3, 0: 1 1 1) -> 0; work(1, 2) -> 2; note(1) -> 2",
            "work(1, 1) -> 1; note(0) -> NONE; note(3) -> BAD; crash(9) -> 0; position(1) -> 0; cell(1, 3, 1) -> 0",
            "flush() -> 0; crash(0) -> 0; position(1) -> 0; work(1, 2) -> 2; note(1) -> 2; work(1, 1) -> 1",
            "note(1) -> 3; cut(3, 1) -> 3; work(1, 5) -> 1; position(1) -> 4; flush() -> 1; crash(0) -> 0",
            "position(1) -> 3; cell(1, 3, 1) -> 3; size(3) -> 3; work(1, 5) -> 1; flush() -> 0; size(3) -> 3",
            "note(1) -> 4; size(3) -> 3; flush() -> 0; size(3) -> 4; scavenge() -> 2");
        Story.tell("12: of one projection, not of the others",
            "define(0: VALUE, SET 0) -> OK; define(2: VALUE, SET 0) -> OK; put(0, 1: 8) -> 0; work(0, 1) -> 1",
            "work(2, 1) -> 1; note(2) -> 1; flush() -> 1; crash(0) -> 0; position(0) -> 0; cell(0, 0, 0) -> 0",
            "position(2) -> 1; cell(2, 0, 0) -> 8; drop(2) -> OK; note(2) -> NONE; note(0) -> 0");
    }

    private static void promise13Position() {
        Story.tell("13: through define, work, crash, FULL and drop",
            "position(1) -> NONE; put(0, 0: 1 2) -> 0; define(1: VALUE, EMIT 32) -> OK; position(1) -> 0",
            "work(1, 1) -> 1; position(1) -> 1; flush() -> 3; position(1) -> 1; cut(0, 0) -> 3; work(1, 20) -> 20",
            "position(1) -> 21; position(0) -> NONE; position(3) -> BAD; position(-1) -> BAD; crash(2) -> 18",
            "size(0) -> 5; position(1) -> 0; work(1, 20) -> 20; note(1) -> 20; size(0) -> 22; work(1, 20) -> FULL",
            "position(1) -> 38; size(0) -> 40; flush() -> 35; position(1) -> 38; crash(0) -> 0; position(1) -> 20",
            "define(1: PUSH 1, PUSH 2, EMIT 40) -> FAULTY+2; position(1) -> 20; define(1: END) -> OK",
            "position(1) -> 40; drop(1) -> OK; position(1) -> NONE");
    }

    private static void promise14Cell() {
        Story.tell("14: two cells for each stream and projection",
            "define(0: CELL 0, VALUE, ADD, SET 0, CELL 1, PUSH 1, ADD, SET 1, VALUE, ZERO 12, VALUE, EMIT 33) -> OK",
            "define(1: TYPE, SET 1) -> OK; put(0, 1: 5 0) -> 0; put(3, 6: -2) -> 2; form(0, 8) -> 0; work(0, 3) -> 3",
            "work(1, 20) -> 5; cell(0, 0, 0) -> 5; cell(0, 0, 1) -> 2; cell(0, 3, 0) -> -2; cell(0, 3, 1) -> 1",
            "cell(0, 4, 0) -> 0; cell(1, 0, 1) -> 1; cell(1, 3, 1) -> 6; cell(1, 4, 1) -> 1; cell(1, 3, 0) -> 0",
            "cell(2, 0, 0) -> 0; cell(3, 0, 0) -> 0; cell(0, 5, 0) -> 0; cell(0, 0, 2) -> 0; cell(-1, 0, 0) -> 0",
            "cell(0, -1, 0) -> 0; cell(0, 0, -1) -> 0; note(0) -> 3; cut(0, 2) -> 5; scavenge() -> 0; flush() -> 6",
            "work(0, 2) -> 2; cell(0, 4, 0) -> 3; cell(0, 4, 1) -> 2; cell(0, 0, 0) -> 5; crash(0) -> 2",
            "cell(0, 4, 0) -> 0; cell(0, 4, 1) -> 0; cell(0, 0, 0) -> 5; cell(1, 3, 1) -> 0; drop(0) -> OK",
            "cell(0, 0, 0) -> 0");
        Story.tell("14: what LESS and the wrap of arithmetic leave in it",
            "define(2: VALUE, PUSH 3, LESS, SET 0, VALUE, DUP, MUL, VALUE, SUB, SET 1) -> OK; put(1, 0: 2) -> 0",
            "work(2, 1) -> 1; cell(2, 1, 0) -> 1; cell(2, 1, 1) -> 2; cut(1, 1) -> 1; put(1, 0: 3) -> 2",
            "work(2, 20) -> 2; cell(2, 1, 0) -> 0; cell(2, 1, 1) -> 6; flush() -> 3; put(1, 0: MIN) -> 3",
            "work(2, 20) -> 1; cell(2, 1, 0) -> 1; cell(2, 1, 1) -> MIN; crash(0) -> 1; cell(2, 1, 1) -> 0");
    }

    private static void promise15Form() {
        Story.tell("15: anew at FLUSHED, between crashes and scavenging",
            "put(0, 1: 1 2) -> 0; form(0, 8) -> 0; take(0) -> 0; answer(0, 0, false) -> true; take(0) -> 0",
            "flush() -> 2; size(3) -> 0; put(0, 1: 3) -> 2; cut(0, 2) -> 3; form(0, 1) -> 2; group(0, 1) -> 0",
            "size(3) -> 2; tick(50) -> 0; take(0) -> 2; crash(0) -> 2; group(0, 0) -> 2; group(0, 1) -> 0",
            "group(0, 2) -> 0; take(0) -> NONE; put(0, 2: 4) -> 2; put(0, 1: 5) -> 3; take(0) -> 3; form(1, 2) -> 2",
            "take(1) -> 2; crash(2) -> 0; form(2, 0) -> BAD; form(0, 9) -> BAD; take(0) -> 3; form(1, 2) -> 4",
            "take(1) -> NONE; cut(0, 4) -> 4; flush() -> 1; size(3) -> 3; scavenge() -> 3; form(0, 8) -> 5",
            "size(3) -> 4; scavenge() -> 1; form(1, 8) -> 5; size(3) -> 5; scavenge() -> 1; size(2) -> 0");
    }

    private static void promise16Take() {
        Story.tell("16: appended, emitted, hidden, waiting and spared events",
            "form(0, 8) -> 0; form(1, 2) -> 0; define(0: VALUE, PUSH 10, MUL, EMIT 10) -> OK; put(0, 1: 1 2 3) -> 0",
            "work(0, 2) -> 2; take(1) -> 3; cut(0, 2) -> 5; take(0) -> 2; take(0) -> 3; group(0, 0) -> 4",
            "take(1) -> 4; take(1) -> NONE; group(1, 0) -> 6; answer(1, 4, false) -> true",
            "answer(1, 3, false) -> true; cut(1, 1) -> 6; take(1) -> 4; take(1) -> NONE; group(1, 2) -> 0",
            "group(1, 0) -> 7; tick(9) -> 0; take(0) -> 4; tick(1) -> 3; group(0, 1) -> 1; group(0, 2) -> 2",
            "flush() -> 7; take(0) -> 2; take(0) -> NONE; group(0, 0) -> 7; group(0, 2) -> 0; crash(0) -> 0",
            "group(0, 0) -> 5; group(0, 2) -> 3; take(0) -> 2; take(0) -> 4; take(0) -> NONE; take(2) -> BAD",
            "group(0, 1) -> 2; answer(0, 2, false) -> true; group(0, 3) -> 0; take(0) -> 2",
            "answer(0, 2, false) -> true; group(0, 3) -> 1");
        Story.tell("16: FULL if 6 are TAKEN, whatever waits",
            "form(1, 8) -> 0; take(0) -> NONE; fill(8); 6 * take(1); take(1) -> FULL; answer(1, 1, false) -> true",
            "answer(1, 0, false) -> true; cut(0, 1) -> 8; take(1) -> 1; take(1) -> 6; take(1) -> FULL; flush() -> 9",
            "crash(0) -> 0; group(1, 2) -> 6; take(1) -> 1; cut(0, 8) -> 9; take(1) -> NONE; group(1, 1) -> 1",
            "group(1, 0) -> 10; group(1, 2) -> 0");
    }

    private static void promise17Answer() {
        Story.tell("17: acknowledged, returned and parked, over flush and crash",
            "form(0, 8) -> 0; define(0: VALUE, SET 0) -> OK; put(0, 1: 1 2 3) -> 0; take(0) -> 0; take(0) -> 1",
            "answer(0, 1, true) -> true; answer(0, 1, true) -> false; flush() -> 3; answer(0, 0, true) -> true",
            "crash(0) -> 0; answer(0, 0, true) -> false; take(0) -> 0; take(0) -> 2; cut(0, 3) -> 3",
            "answer(0, 2, false) -> true; group(0, 2) -> 1; answer(0, 0, true) -> true; take(0) -> NONE",
            "group(0, 2) -> 0; flush() -> 1; crash(0) -> 0; group(0, 2) -> 0; scavenge() -> 0; drop(0) -> OK",
            "scavenge() -> 4; put(1, 1: 9) -> 4; take(0) -> 4; tick(10) -> 1; answer(0, 4, false) -> false",
            "take(0) -> 4; answer(0, 4, false) -> true; take(0) -> 4; answer(1, 4, false) -> false",
            "answer(0, 4, false) -> true; group(0, 3) -> 1; answer(0, 4, false) -> false; take(0) -> NONE");
    }

    private static void promise18Tick() {
        Story.tell("18: DUE times of two groups, over a crash",
            "form(0, 8) -> 0; form(1, 8) -> 0; fill(4); tick(5) -> 0; take(0) -> 0; take(1) -> 0; tick(2) -> 0",
            "take(0) -> 1; work(0, 1) -> NONE; tick(7) -> 0; tick(101) -> BAD; tick(-1) -> BAD; tick(0) -> 0",
            "tick(1) -> 2; group(0, 1) -> 1; group(0, 2) -> 1; group(1, 2) -> 1; take(0) -> 0; flush() -> 4",
            "tick(2) -> 1; crash(0) -> 0; tick(100) -> 0; group(0, 2) -> 2; take(0) -> 0; take(0) -> 1; take(1) -> 0",
            "tick(9) -> 0; answer(0, 1, true) -> true; tick(1) -> 2; group(0, 3) -> 1; group(0, 2) -> 0",
            "group(1, 2) -> 1; group(1, 3) -> 0");
        Story.tell("18: by rising DUE times, of equal ones by rising positions",
            "form(0, 8) -> 0; put(2, 0: 1 1 1) -> 0; 3 * take(0); answer(0, 2, false); answer(0, 0, false)",
            "tick(4) -> 0; take(0) -> 2; take(0) -> 0; tick(3) -> 0; cut(2, 0) -> 3; tick(90) -> 3; take(0) -> 1",
            "take(0) -> 0; take(0) -> 2; tick(10) -> 3; group(0, 3) -> 2; group(0, 2) -> 1; take(0) -> 1");
    }

    private static void promise19Group() {
        Story.tell("19: what it tells through all that moves a group",
            "group(0, 0) -> BAD; put(0, 3: 1 2) -> 0; flush() -> 2; form(0, 3) -> 2; group(0, 0) -> 2",
            "group(1, 0) -> BAD; define(0: VALUE, EMIT 3) -> OK; put(1, 4: 7) -> 2; work(0, 1) -> 1; take(0) -> 3",
            "group(0, 0) -> 4; group(0, 1) -> 1; tick(10) -> 1; group(0, 1) -> 0; group(0, 2) -> 1; take(0) -> 3",
            "tick(10) -> 1; take(0) -> 3; tick(10) -> 1; group(0, 2) -> 0; group(0, 3) -> 1; crash(0) -> 2",
            "group(0, 0) -> 2; group(0, 3) -> 1; group(0, 4) -> BAD; group(0, -1) -> BAD; group(2, 0) -> BAD",
            "put(0, 3: 5) -> 2; take(0) -> 2; flush() -> 1; group(0, 1) -> 1; scavenge() -> 0; crash(0) -> 0",
            "group(0, 1) -> 0; group(0, 2) -> 1; group(0, 3) -> 1; form(0, 3) -> 3; group(0, 2) -> 0",
            "group(0, 3) -> 0");
    }

    private static void promise20Read() {
        Story.tell("20: by stream and version, whatever lies between",
            "put(0, 1: 5) -> 0; put(1, 2: 6) -> 1; cut(0, 0) -> 2; define(0: VALUE, PUSH 1, ADD, EMIT 9) -> OK",
            "read(0, 0) -> 0; put(0, 3: 7) -> 3; work(0, 1) -> 1; read(1, 1) -> 4; found(3) -> 6; read(0, 1) -> 3",
            "found(3) -> 7; read(1, 2) -> NONE; read(0, 2) -> NONE; read(2, 0) -> NONE; read(5, 0) -> NONE",
            "read(-1, 0) -> NONE; read(0, -1) -> NONE; found(3) -> 7; cut(1, 1) -> 5; read(1, 0) -> NONE",
            "read(1, 1) -> 4; crash(4) -> 2; read(1, 1) -> NONE; read(1, 0) -> 1; cut(0, 1) -> 4; flush() -> 1",
            "drop(0) -> OK; scavenge() -> 3; read(0, 0) -> NONE; read(0, 1) -> 3; put(0, 4: 8) -> 5; read(0, 2) -> 5",
            "found(1) -> 2; found(2) -> 4");
    }

    private static void promise21Next() {
        Story.tell("21: the log from a position on, as it stands",
            "next(0) -> NONE; put(0, 1: 5 6) -> 0; put(1, 2: 7) -> 2; next(-9) -> 0; next(1) -> 1; next(2) -> 2",
            "next(3) -> NONE; cut(0, 2) -> 3; next(0) -> 2; define(2: VALUE, EMIT 0) -> OK; work(2, 1) -> 1",
            "next(3) -> 4; found(0) -> 0; found(1) -> 2; found(3) -> 5; found(4) -> 2; next(MAX) -> NONE",
            "next(MIN) -> 2; flush() -> 5; put(3, 3: 8 9) -> 5; next(5) -> 5; crash(1) -> 2; next(5) -> NONE",
            "drop(2) -> OK; scavenge() -> 3; next(0) -> 2; cut(1, 1) -> 5; next(0) -> 4; crash(0) -> 1; next(0) -> 2",
            "take(0) -> NONE; found(0) -> 1");
    }

    private static void promise22Found() {
        Story.tell("22: of the last that was found, until a crash",
            "found(0) -> 0; found(4) -> 0; found(5) -> 0; put(2, 5: -7) -> 0; define(1: TYPE, EMIT 39) -> OK",
            "found(4) -> 0; next(0) -> 0; found(0) -> 2; found(1) -> 0; found(2) -> 5; found(3) -> -7",
            "found(4) -> -1; found(5) -> -1; found(6) -> 0; found(-1) -> 0; work(1, 2) -> 2; read(4, 1) -> 2",
            "found(0) -> 4; found(1) -> 1; found(2) -> 7; found(3) -> 7; found(4) -> 1; found(5) -> 1",
            "read(3, 0) -> NONE; next(3) -> NONE; found(5) -> 1; cut(4, 2) -> 3; found(3) -> 7; flush() -> 4",
            "drop(1) -> OK; scavenge() -> 3; found(3) -> 7; found(4) -> 1; form(0, 8) -> 4; take(0) -> NONE",
            "total(8, 0, 9) -> -7; found(3) -> 7; crash(-1) -> BAD; found(3) -> 7; crash(0) -> 0; found(0) -> 0",
            "found(3) -> 0; found(4) -> 0; found(5) -> 0; next(1) -> NONE; found(4) -> 0; next(0) -> 0",
            "found(4) -> -1");
    }

    private static void promise23Total() {
        Story.tell("23: of shown events, appended and emitted, in a long",
            "total(8, 0, 9) -> 0; put(0, 1: MAX MAX) -> 0; put(1, 2: MAX) -> 2; cut(0, 0) -> 3",
            "total(1, 0, 9) -> 4294967294; total(8, 0, 2) -> 6442450941; total(8, 1, 1) -> 2147483647",
            "total(8, 2, 1) -> 0; total(2, 0, 1) -> 0; define(0: VALUE, VALUE, ADD, EMIT 17) -> OK; work(0, 1) -> 1",
            "total(1, 4, 4) -> -2; total(1, MIN, MAX) -> 4294967292; total(9, 0, 9) -> 0; total(-1, 0, 9) -> 0",
            "flush() -> 5; cut(0, 1) -> 5; total(8, 0, 9) -> 4294967292; crash(0) -> 1; total(8, 0, 9) -> 6442450939",
            "cut(0, 2) -> 5; flush() -> 1; drop(0) -> OK; scavenge() -> 4; total(8, 0, 9) -> 2147483645",
            "total(8, 3, 9) -> -2; put(3, 0: MIN MIN) -> 6; total(0, 0, 9) -> -4294967296",
            "total(8, 6, 6) -> -2147483648; total(8, 7, MAX) -> -2147483648; total(8, 8, MAX) -> 0");
    }

    private static void promise24Version() {
        Story.tell("24: how many events, hidden, removed and emitted ones too, lost ones not",
            "version(0) -> 0; version(4) -> 0; version(5) -> BAD; version(-1) -> BAD; put(4, 1: 1 2) -> 0",
            "version(4) -> 2; event(1, 3); version(4) -> 2; append(4, 0) -> CONFLICT; version(4) -> 2",
            "append(4, 1) -> 2; version(4) -> 3; cut(4, 3) -> 3; version(4) -> 3; flush() -> 4",
            "define(0: VALUE, EMIT 32) -> OK; scavenge() -> 4; version(4) -> 3; put(4, 1: 5) -> 4; work(0, 3) -> 3",
            "version(4) -> 7; version(0) -> 0; crash(2) -> 2; version(4) -> 5; work(0, 3) -> 3; version(4) -> 7",
            "cut(4, 8) -> BAD; cut(4, 7) -> 8; version(4) -> 7; crash(0) -> 3; version(4) -> 5; put(0, 0: 1) -> 6",
            "version(0) -> 1; version(4) -> 5");
    }

    private static void promise25Size() {
        Story.tell("25: records, FLUSHED, those that aren't REMOVED, and LOW",
            "put(0, 1: 1 2 3) -> 0; size(0) -> 3; size(1) -> 0; size(2) -> 3; size(3) -> 0; cut(0, 2) -> 3",
            "flush() -> 4; size(1) -> 4; size(3) -> 4; form(0, 8) -> 4; define(0: VALUE, EMIT 8) -> OK",
            "put(0, 1: 4) -> 4; work(0, 1) -> 1; take(0) -> 4; size(0) -> 6; size(1) -> 4; size(3) -> 4",
            "scavenge() -> 3; size(0) -> 6; size(2) -> 3; flush() -> 2; size(1) -> 6; size(3) -> 4; note(0) -> 5",
            "take(0) -> 5; answer(0, 4, true) -> true; size(3) -> 4; flush() -> 0; size(3) -> 5; drop(0) -> OK",
            "size(3) -> 5; answer(0, 5, true) -> true; flush() -> 0; size(3) -> 6; put(2, 0: 1 1) -> 6",
            "crash(1) -> 2; size(0) -> 6; size(1) -> 6; size(2) -> 3; size(4) -> BAD; size(-1) -> BAD",
            "put(2, 0: 1 1) -> 6; crash(2) -> 0; size(1) -> 8; size(3) -> 6; form(1, 0) -> 8; size(3) -> 6");
    }

    private static void promise26OrderAndLimits() {
        Story.tell("26: take that finds none, and read and next that find none",
            "form(0, 2) -> 0; form(1, 8) -> 0; put(0, 1: 1 2) -> 0; put(1, 2: 3) -> 2; take(0) -> 2; take(1) -> 0",
            "take(1) -> 1; tick(10) -> 3; next(1) -> 1; found(3) -> 2; cut(0, 2) -> 3; cut(1, 1) -> 4",
            "next(0) -> NONE; read(0, 1) -> NONE; found(3) -> 2; group(0, 0) -> 3; group(0, 2) -> 1; take(0) -> NONE",
            "group(0, 0) -> 5; group(0, 2) -> 0; group(1, 0) -> 2; group(1, 2) -> 2; take(1) -> NONE",
            "group(1, 0) -> 5; group(1, 2) -> 0; group(1, 1) -> 0; group(1, 3) -> 0; found(3) -> 2; flush() -> 5",
            "size(3) -> 5; scavenge() -> 5; found(3) -> 2; define(0: VALUE, EMIT 10) -> OK; put(3, 0: 6) -> 5",
            "work(0, 1) -> 1; take(0) -> 6; take(0) -> NONE; group(0, 0) -> 7; next(5) -> 5; found(3) -> 6",
            "read(3, 1) -> NONE; found(3) -> 6");
    }
}
