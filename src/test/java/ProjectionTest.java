/** Promises 8 to 14: code, define, drop, work, note, position, cell. */
public final class ProjectionTest {
    private static final int PUSH = Stores.PUSH, VALUE = Stores.VALUE, TYPE = Stores.TYPE, CELL = Stores.CELL;
    private static final int ADD = Stores.ADD, SUB = Stores.SUB, MUL = Stores.MUL, LESS = Stores.LESS;
    private static final int DUP = Stores.DUP, SET = Stores.SET, ZERO = Stores.ZERO, JUMP = Stores.JUMP;
    private static final int EMIT = Stores.EMIT, END = Stores.END;

    public static void main(String[] args) {
        promise8Code();
        promise9Define();
        promise9Arguments();
        promise9Heights();
        promise9MeetingHeights();
        promise9GivesANewState();
        promise9LeavesTheOthers();
        promise10Drop();
        promise11Arithmetic();
        promise11Flow();
        promise11Emit();
        promise11Work();
        promise11Full();
        promise11OriginsOutliveThePrograms();
        promise11HiddenOriginsCount();
        promise12Note();
        promise13Position();
        promise14Cell();
        Due.end();
    }

    private static void promise8Code() {
        EventStore x = new EventStore();
        Due.no("code(-1, 0)", x.code(-1, 0));
        Due.no("code(14, 0)", x.code(14, 0));
        Due.is("nothing was drafted", EventStore.BAD, x.define(0));
        for (int op = 0; op < 14; op++) {
            Due.yes("code(" + op + ", -7): c is not looked at yet", x.code(op, -7));
        }
        Due.no("a 15th instruction", x.code(END, 0));
        Due.is("the fourth is the first faulty one", EventStore.FAULTY + 3, x.define(0));
        Due.yes("the draft is empty again", x.code(END, 0));
        Due.is("a program of one", EventStore.OK, x.define(0));
    }

    private static void promise9Define() {
        EventStore x = new EventStore();
        Due.is("define of nothing", EventStore.BAD, x.define(0));
        x.code(END, 0);
        Due.is("define(-1)", EventStore.BAD, x.define(-1));
        Due.is("define(3)", EventStore.BAD, x.define(3));
        Due.is("the draft stayed", EventStore.OK, x.define(2));
        Due.is("the draft is empty then", EventStore.BAD, x.define(2));
        Due.is("projection 2 has a program", 0, x.position(2));
        Due.is("projection 1 has none", EventStore.NONE, x.position(1));
        x.code(ADD, 0);
        Due.is("a faulty one", EventStore.FAULTY, x.define(1));
        Due.is("the draft is empty then too", EventStore.BAD, x.define(1));
        Due.is("projection 1 still has none", EventStore.NONE, x.position(1));
        Stores.defineSum(x, 0);
        Stores.append(x, 3, 0, 7);
        x.work(0, 1);
        Due.is("a faulty one again", EventStore.FAULTY + 1, Stores.define(x, 0, VALUE, 0, EMIT, 40));
        Due.is("the projection is as it was: position", 1, x.position(0));
        Due.is("the projection is as it was: cell", 7, x.cell(0, 3, 0));
        Stores.append(x, 3, 0, 8);
        x.work(0, 1);
        Due.is("the projection is as it was: program", 15, x.cell(0, 3, 0));
    }

    private static void check(String name, int want, int... pairs) {
        Due.is("define " + name, want, Stores.define(new EventStore(), 0, pairs));
    }

    private static void promise9Arguments() {
        int faulty = EventStore.FAULTY;
        check("CELL -1", faulty, CELL, -1);
        check("CELL 0", 0, CELL, 0);
        check("CELL 1", 0, CELL, 1);
        check("CELL 2", faulty, CELL, 2);
        check("SET -1", faulty + 1, VALUE, 0, SET, -1);
        check("SET 1", 0, VALUE, 0, SET, 1);
        check("SET 2", faulty + 1, VALUE, 0, SET, 2);
        check("EMIT -1", faulty + 1, VALUE, 0, EMIT, -1);
        check("EMIT 0", 0, VALUE, 0, EMIT, 0);
        check("EMIT 39", 0, VALUE, 0, EMIT, 39);
        check("EMIT 40", faulty + 1, VALUE, 0, EMIT, 40);
        check("JUMP to itself", faulty + 1, VALUE, 0, JUMP, 1, END, 0);
        check("JUMP back", faulty + 1, VALUE, 0, JUMP, 0, END, 0);
        check("JUMP to the end", 0, VALUE, 0, JUMP, 3, END, 0);
        check("JUMP behind the end", faulty + 1, VALUE, 0, JUMP, 4, END, 0);
        check("ZERO to itself", faulty + 1, VALUE, 0, ZERO, 1, END, 0);
        check("ZERO to the next", 0, VALUE, 0, ZERO, 2, END, 0);
        check("ZERO to the end", 0, VALUE, 0, ZERO, 3, END, 0);
        check("ZERO behind the end", faulty + 1, VALUE, 0, ZERO, 4, END, 0);
        check("ZERO far behind the end", faulty + 1, VALUE, 0, ZERO, Integer.MAX_VALUE);
        check("any c of the others", 0, PUSH, -9, VALUE, 99, TYPE, -1, ADD, 99, SUB, -5, DUP, 77, LESS, 40, END, -3);
        check("any c of MUL", 0, PUSH, 1, DUP, -1, MUL, -1);
        check("one that is not met: its c", faulty + 1, END, 0, CELL, 2);
        check("one that is not met: not its height", 0, END, 0, ADD, 0, SET, 1, EMIT, 39);
        check("one that is not met: a JUMP", faulty + 1, END, 0, JUMP, 1, END, 0);
        check("the first of two", faulty + 1, VALUE, 0, SET, 9, ADD, 0);
        check("the first of two, by its height", faulty, ADD, 0, SET, 9);
    }

    private static void promise9Heights() {
        int faulty = EventStore.FAULTY;
        for (int op = ADD; op <= LESS; op++) {
            check("op " + op + " on nothing", faulty, op, 0);
            check("op " + op + " on one", faulty + 1, PUSH, 0, op, 0);
            check("op " + op + " on two", 0, PUSH, 0, PUSH, 0, op, 0);
            check("op " + op + " leaves one", faulty + 3, PUSH, 0, PUSH, 0, op, 0, op, 0);
        }
        check("DUP on nothing", faulty, DUP, 0);
        check("SET on nothing", faulty, SET, 0);
        check("ZERO on nothing", faulty, ZERO, 1);
        check("EMIT on nothing", faulty, EMIT, 0);
        check("SET takes one", faulty + 2, PUSH, 0, SET, 0, SET, 0);
        check("ZERO takes one", faulty + 2, PUSH, 0, ZERO, 2, SET, 0);
        check("EMIT takes one", faulty + 2, PUSH, 0, EMIT, 2, SET, 0);
        check("JUMP takes none", 0, PUSH, 0, JUMP, 2, SET, 0);
        check("DUP leaves two", 0, PUSH, 0, DUP, 0, SET, 0, SET, 0);
        check("four", 0, PUSH, 0, VALUE, 0, TYPE, 0, CELL, 0);
        check("PUSH of a fifth", faulty + 4, PUSH, 0, VALUE, 0, TYPE, 0, CELL, 0, PUSH, 0);
        check("VALUE as a fifth", faulty + 4, PUSH, 0, VALUE, 0, TYPE, 0, CELL, 0, VALUE, 0);
        check("TYPE as a fifth", faulty + 4, PUSH, 0, VALUE, 0, TYPE, 0, CELL, 0, TYPE, 0);
        check("CELL as a fifth", faulty + 4, PUSH, 0, VALUE, 0, TYPE, 0, CELL, 0, CELL, 0);
        check("DUP as a fifth", faulty + 4, PUSH, 0, VALUE, 0, TYPE, 0, CELL, 0, DUP, 0);
        check("DUP as a fourth", 0, PUSH, 0, VALUE, 0, TYPE, 0, DUP, 0);
        check("ADD on four", 0, PUSH, 0, VALUE, 0, TYPE, 0, CELL, 0, ADD, 0);
        check("END on four", 0, PUSH, 0, VALUE, 0, TYPE, 0, CELL, 0, END, 0);
    }

    private static void promise9MeetingHeights() {
        int faulty = EventStore.FAULTY;
        check("two heights", faulty + 3, VALUE, 0, ZERO, 3, PUSH, 5, END, 0);
        check("two heights at the end", 0, VALUE, 0, ZERO, 3, PUSH, 5);
        check("one height by two ways", 0, VALUE, 0, ZERO, 4, PUSH, 5, JUMP, 5, PUSH, 6, SET, 0);
        check("two heights by JUMP", faulty + 5, VALUE, 0, ZERO, 4, PUSH, 5, JUMP, 5, JUMP, 5, SET, 0);
        check("JUMP passes one over", 0, JUMP, 2, ADD, 0, VALUE, 0, SET, 0);
        check("what is passed over meets nothing", 0, JUMP, 2, PUSH, 1, PUSH, 2, SET, 0);
        check("END goes on nowhere", 0, VALUE, 0, ZERO, 4, PUSH, 5, END, 0, PUSH, 6, SET, 0);
        check("a third height", faulty + 8, VALUE, 0, ZERO, 8, VALUE, 0, DUP, 0, ZERO, 8, VALUE, 0, SET, 0,
                SET, 1, END, 0);
    }

    private static void promise9GivesANewState() {
        EventStore x = new EventStore();
        Stores.append(x, 0, 0, 5, 6);
        x.flush();
        Stores.append(x, 0, 0, 7);
        Due.is("define", EventStore.OK, Stores.defineSum(x, 0));
        Due.is("it begins at FLUSHED", 2, x.position(0));
        x.work(0, 9);
        x.note(0);
        Due.is("it worked on one", 7, x.cell(0, 0, 0));
        Due.is("define again", EventStore.OK, Stores.define(x, 0, VALUE, 0, SET, 1));
        Due.is("the position is FLUSHED again", 2, x.position(0));
        Due.is("its cells are 0", 0, x.cell(0, 0, 0));
        x.flush();
        x.crash(0);
        Due.is("what the former program NOTED is gone: position", 2, x.position(0));
        Due.is("what the former program NOTED is gone: cell", 0, x.cell(0, 0, 0));
        Due.is("the kept state is new too", 2, x.size(3));
        x.work(0, 9);
        Due.is("it runs the new program", 7, x.cell(0, 0, 1));
        Due.is("and not the old one", 0, x.cell(0, 0, 0));
    }

    private static void promise9LeavesTheOthers() {
        EventStore x = new EventStore();
        Stores.define(x, 0, VALUE, 0, SET, 0);
        Stores.define(x, 1, VALUE, 0, SET, 0);
        Stores.define(x, 2, VALUE, 0, SET, 0);
        Stores.append(x, 0, 0, 7);
        for (int p = 0; p < 3; p++) {
            x.work(p, 1);
        }
        Due.is("a shorter program over the longer", EventStore.OK, Stores.define(x, 1, PUSH, 9));
        Due.is("the one before it", 7, x.cell(0, 0, 0));
        Due.is("the one behind it", 7, x.cell(2, 0, 0));
        Due.is("their positions", 1, x.position(2));
        Due.is("work with it", 1, x.work(1, 9));
        Due.is("nothing of the longer one is left", 0, x.cell(1, 0, 0));
    }

    private static void promise10Drop() {
        EventStore x = new EventStore();
        Due.is("drop(-1)", EventStore.BAD, x.drop(-1));
        Due.is("drop(3)", EventStore.BAD, x.drop(3));
        Due.is("drop of none", EventStore.NONE, x.drop(1));
        Stores.defineSum(x, 1);
        Stores.append(x, 0, 0, 5);
        x.work(1, 1);
        x.note(1);
        x.flush();
        Stores.append(x, 0, 0, 6);
        x.flush();
        Due.is("LOW with it", 1, x.size(3));
        Due.is("drop", EventStore.OK, x.drop(1));
        Due.is("LOW without it", 2, x.size(3));
        Due.is("drop again", EventStore.NONE, x.drop(1));
        Due.is("it has no position", EventStore.NONE, x.position(1));
        Due.is("it has no cells", 0, x.cell(1, 0, 0));
        Due.is("it does not work", EventStore.NONE, x.work(1, 1));
        x.crash(0);
        Due.is("a crash does not bring it back", EventStore.NONE, x.position(1));
        Stores.defineSum(x, 1);
        Due.is("defined again it is new", 0, x.cell(1, 0, 0));
    }

    /** What a program leaves in cell 0 for an event of type 3 with a value. */
    private static int cellFor(int value, int... pairs) {
        EventStore x = new EventStore();
        Stores.define(x, 0, pairs);
        Stores.append(x, 1, 3, value);
        x.work(0, 1);
        return x.cell(0, 1, 0);
    }

    private static void promise11Arithmetic() {
        int min = Integer.MIN_VALUE;
        int max = Integer.MAX_VALUE;
        Due.is("PUSH", -8, cellFor(5, PUSH, -8, SET, 0));
        Due.is("VALUE", 5, cellFor(5, VALUE, 0, SET, 0));
        Due.is("TYPE", 3, cellFor(5, TYPE, 0, SET, 0));
        Due.is("ADD", 12, cellFor(5, VALUE, 0, PUSH, 7, ADD, 0, SET, 0));
        Due.is("SUB", -2, cellFor(5, VALUE, 0, PUSH, 7, SUB, 0, SET, 0));
        Due.is("MUL", -35, cellFor(-5, VALUE, 0, PUSH, 7, MUL, 0, SET, 0));
        Due.is("LESS", 1, cellFor(5, VALUE, 0, PUSH, 7, LESS, 0, SET, 0));
        Due.is("LESS of equal ones", 0, cellFor(7, VALUE, 0, PUSH, 7, LESS, 0, SET, 0));
        Due.is("LESS of greater ones", 0, cellFor(8, VALUE, 0, PUSH, 7, LESS, 0, SET, 0));
        Due.is("LESS of far ones", 1, cellFor(min, VALUE, 0, PUSH, max, LESS, 0, SET, 0));
        Due.is("ADD wraps", min, cellFor(max, VALUE, 0, PUSH, 1, ADD, 0, SET, 0));
        Due.is("SUB wraps", max, cellFor(min, VALUE, 0, PUSH, 1, SUB, 0, SET, 0));
        Due.is("MUL wraps", -2, cellFor(max, VALUE, 0, PUSH, 2, MUL, 0, SET, 0));
        Due.is("DUP", 25, cellFor(5, VALUE, 0, DUP, 0, MUL, 0, SET, 0));
        Due.is("SET then CELL", 10, cellFor(5, VALUE, 0, SET, 0, CELL, 0, CELL, 0, ADD, 0, SET, 0));
        Due.is("the other cell", 6, cellFor(6, VALUE, 0, SET, 1, CELL, 1, SET, 0));
        Due.is("order on the stack", 2, cellFor(9, VALUE, 0, PUSH, 5, PUSH, 2, SET, 0, SET, 1, SET, 1));
    }

    private static void promise11Flow() {
        int[] choose = {VALUE, 0, ZERO, 4, PUSH, 5, JUMP, 5, PUSH, 6, SET, 0};
        Due.is("ZERO of 0 goes on at c", 6, cellFor(0, choose));
        Due.is("ZERO of 1 goes on behind it", 5, cellFor(1, choose));
        Due.is("ZERO of -1 goes on behind it", 5, cellFor(-1, choose));
        Due.is("END ends", 1, cellFor(0, PUSH, 1, SET, 0, END, 0, PUSH, 2, SET, 0));
        Due.is("JUMP to the end", 1, cellFor(0, PUSH, 1, SET, 0, JUMP, 5, PUSH, 2, SET, 0));
        Due.is("ZERO to the end", 1, cellFor(0, PUSH, 1, SET, 0, VALUE, 0, ZERO, 6, PUSH, 2, SET, 0));
        int[] longest = {PUSH, 1, SET, 0, PUSH, 2, SET, 0, PUSH, 3, SET, 0, PUSH, 4, SET, 0, PUSH, 5, SET, 0,
            PUSH, 6, SET, 0, PUSH, 7, SET, 0};
        Due.is("14 instructions run", 7, cellFor(0, longest));
        EventStore x = new EventStore();
        Stores.define(x, 0, PUSH, 1, PUSH, 2, PUSH, 3, VALUE, 0, SET, 0);
        Stores.append(x, 0, 0, 7, 8, 9);
        x.work(0, 3);
        Due.is("each event finds an empty stack", 9, x.cell(0, 0, 0));
    }

    private static void promise11Emit() {
        EventStore x = new EventStore();
        Stores.define(x, 2, VALUE, 0, DUP, 0, EMIT, 39, EMIT, 8);
        Stores.append(x, 0, 3, 50);
        x.cut(0, 1);
        Due.is("a HIDDEN event and a CUT", 2, x.work(2, 2));
        Due.is("two were emitted for the event, none for the cut", 4, x.size(0));
        Due.is("the first into stream 4", 2, x.read(4, 0));
        Due.is("its type", 7, x.found(2));
        Due.is("its value", 50, x.found(3));
        Due.is("its projection", 2, x.found(4));
        Due.is("the position worked on", 0, x.found(5));
        Due.is("the second into stream 1", 3, x.read(1, 0));
        Due.is("its type", 0, x.found(2));
        Due.is("its value", 50, x.found(3));
        Stores.append(x, 4, 0, 1);
        Due.is("an appended event behind it", 4, x.read(4, 1));
        Due.is("it has no projection", -1, x.found(4));
        Due.is("it has no position worked on", -1, x.found(5));
        Stores.define(x, 0, VALUE, 0, EMIT, 39, VALUE, 0, EMIT, 8);
        x.work(0, 1);
        Due.is("the same by another projection is emitted too", 7, x.size(0));
    }

    private static void promise11Work() {
        EventStore x = new EventStore();
        Due.is("work(-1, 1)", EventStore.BAD, x.work(-1, 1));
        Due.is("work(3, 1)", EventStore.BAD, x.work(3, 1));
        Due.is("work(0, 0): BAD before NONE", EventStore.BAD, x.work(0, 0));
        Due.is("work(0, 21)", EventStore.BAD, x.work(0, 21));
        Due.is("work(0, 20) without a program", EventStore.NONE, x.work(0, 20));
        Stores.defineSum(x, 0);
        Due.is("work on nothing", 0, x.work(0, 20));
        Stores.fill(x, 23);
        Due.is("work(0, 20)", 20, x.work(0, 20));
        Due.is("work(0, 1)", 1, x.work(0, 1));
        Due.is("work on the rest", 2, x.work(0, 20));
        Due.is("sum", 22 * 23 / 2, x.cell(0, 0, 0));
        Due.is("nothing is left", 0, x.work(0, 20));
        Due.is("position", 23, x.position(0));
        x.cut(0, 2);
        Due.is("a cut is worked on", 1, x.work(0, 20));
        Due.is("without any change", 22 * 23 / 2, x.cell(0, 0, 0));
    }

    private static void promise11Full() {
        EventStore x = new EventStore();
        Stores.define(x, 0, VALUE, 0, SET, 0, TYPE, 0, SET, 1, VALUE, 0, EMIT, 33, VALUE, 0, EMIT, 34);
        Stores.define(x, 1, CELL, 0, PUSH, 1, ADD, 0, SET, 0);
        Stores.append(x, 0, 2, 70);
        Stores.append(x, 0, 3, 71);
        Stores.fill(x, 35);
        Due.is("room for three", 37, x.size(2));
        Due.is("it stops at the second event", EventStore.FULL, x.work(0, 20));
        Due.is("it worked on the first", 1, x.position(0));
        Due.is("the cells are those of the first: 0", 70, x.cell(0, 0, 0));
        Due.is("the cells are those of the first: 1", 2, x.cell(0, 0, 1));
        Due.is("what was appended for the second stays", 40, x.size(0));
        Due.is("it has its value", 39, x.read(4, 2));
        Due.is("value", 71, x.found(3));
        Due.is("again FULL", EventStore.FULL, x.work(0, 1));
        Due.is("nothing more was appended", 40, x.size(0));
        Due.is("one that emits nothing is not FULL", 20, x.work(1, 20));
        x.note(1);
        x.work(0, 1);
        x.note(0);
        x.flush();
        x.cut(0, 1);
        Due.is("no room for a cut", 40, x.size(0));
        Due.is("no cut, nothing to scavenge", 0, x.scavenge());
    }

    private static void promise11OriginsOutliveThePrograms() {
        EventStore x = new EventStore();
        Stores.append(x, 0, 0, 5);
        Stores.define(x, 0, VALUE, 0, EMIT, 8);
        x.work(0, 1);
        Due.is("one emitted", 2, x.size(0));
        Stores.define(x, 0, PUSH, 99, EMIT, 16, PUSH, 98, EMIT, 16);
        x.work(0, 1);
        Due.is("the EMIT with the same number appends nothing, the other one does", 3, x.size(0));
        Due.is("the other one's", 2, x.read(2, 0));
        Due.is("value", 98, x.found(3));
    }

    private static void promise11HiddenOriginsCount() {
        EventStore x = new EventStore();
        Stores.define(x, 0, TYPE, 0, ZERO, 3, END, 0, VALUE, 0, EMIT, 9);
        Stores.append(x, 0, 0, 5);
        x.work(0, 1);
        x.flush();
        Due.is("one emitted", 1, x.version(1));
        x.cut(1, 1);
        x.crash(9);
        Due.is("kept at 0", 0, x.position(0));
        x.work(0, 3);
        Due.is("a hidden event's ORIGIN counts", 1, x.version(1));
    }

    private static void promise12Note() {
        EventStore x = new EventStore();
        Due.is("note(-1)", EventStore.BAD, x.note(-1));
        Due.is("note(3)", EventStore.BAD, x.note(3));
        Due.is("note of none", EventStore.NONE, x.note(2));
        Stores.defineSum(x, 2);
        Stores.append(x, 0, 0, 5, 6, 7);
        x.work(2, 1);
        Due.is("note", 1, x.note(2));
        x.work(2, 1);
        Due.is("note again", 2, x.note(2));
        x.work(2, 1);
        Due.is("work goes on", 3, x.position(2));
        x.flush();
        Due.is("flush does not move it", 3, x.position(2));
        x.crash(0);
        Due.is("the second note counts", 2, x.position(2));
        Due.is("its cell", 11, x.cell(2, 0, 0));
    }

    private static void promise13Position() {
        EventStore x = new EventStore();
        Due.is("position(-1)", EventStore.BAD, x.position(-1));
        Due.is("position(3)", EventStore.BAD, x.position(3));
        Due.is("position of none", EventStore.NONE, x.position(0));
        Stores.append(x, 0, 0, 5, 6);
        x.flush();
        Stores.defineSum(x, 0);
        Due.is("at FLUSHED", 2, x.position(0));
        x.cut(0, 0);
        x.work(0, 1);
        Due.is("behind the cut", 3, x.position(0));
    }

    private static void promise14Cell() {
        EventStore x = new EventStore();
        Due.is("cell without a program", 0, x.cell(0, 0, 0));
        for (int p = 0; p < 3; p++) {
            Stores.define(x, p, CELL, 0, PUSH, p + 1, ADD, 0, SET, 0, VALUE, 0, SET, 1);
        }
        for (int s = 0; s < 5; s++) {
            Stores.append(x, s, 0, 10 + s);
            Stores.append(x, s, 0, 20 + s);
        }
        for (int p = 0; p < 3; p++) {
            x.work(p, 20);
            for (int s = 0; s < 5; s++) {
                Due.is("cell(" + p + ", " + s + ", 0)", 2 * (p + 1), x.cell(p, s, 0));
                Due.is("cell(" + p + ", " + s + ", 1)", 20 + s, x.cell(p, s, 1));
            }
        }
        Due.is("cell(-1, 0, 0)", 0, x.cell(-1, 0, 0));
        Due.is("cell(3, 0, 0)", 0, x.cell(3, 0, 0));
        Due.is("cell(0, -1, 1)", 0, x.cell(0, -1, 1));
        Due.is("cell(0, 5, 0)", 0, x.cell(0, 5, 0));
        Due.is("cell(1, 1, -1)", 0, x.cell(1, 1, -1));
        Due.is("cell(0, 0, 2)", 0, x.cell(0, 0, 2));
    }
}
