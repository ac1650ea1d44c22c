/** Short ways to bring a store into a state that a test starts from. */
final class Stores {
    static final int PUSH = 0, VALUE = 1, TYPE = 2, CELL = 3, ADD = 4, SUB = 5, MUL = 6, LESS = 7;
    static final int DUP = 8, SET = 9, ZERO = 10, JUMP = 11, EMIT = 12, END = 13;

    private Stores() {
    }

    /** Appends one event for each value, by one call. */
    static int append(EventStore x, int s, int type, int... values) {
        for (int v : values) {
            x.event(type, v);
        }
        return x.append(s, -2);
    }

    /** Drafts a program from pairs of op and c, and defines it. */
    static int define(EventStore x, int p, int... pairs) {
        for (int i = 0; i < pairs.length; i += 2) {
            x.code(pairs[i], pairs[i + 1]);
        }
        return x.define(p);
    }

    /** Defines the program that adds the values of each stream up in its cell 0. */
    static int defineSum(EventStore x, int p) {
        return define(x, p, CELL, 0, VALUE, 0, ADD, 0, SET, 0);
    }

    /** Appends so many events of type 0 to stream 0, one call for four of them. */
    static void fill(EventStore x, int events) {
        for (int i = 0; i < events; i++) {
            x.event(0, i);
            if (i % 4 == 3 || i == events - 1) {
                x.append(0, -2);
            }
        }
    }
}
