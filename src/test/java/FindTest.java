/** Promises 20 to 25: read, next, found, total, version, size; and what promise 26 says of read and next. */
public final class FindTest {
    public static void main(String[] args) {
        promise20Read();
        promise21Next();
        promise22Found();
        promise23Total();
        promise24Version();
        promise25Size();
        promise26Found();
        Due.end();
    }

    /** 0: s0 v10, 1: s0 v11, 2: s3 v-5, 3: cut of stream 0 at 1, 4: s0 v12. */
    private static EventStore withCut() {
        EventStore x = new EventStore();
        Stores.append(x, 0, 1, 10, 11);
        Stores.append(x, 3, 2, -5);
        x.cut(0, 1);
        Stores.append(x, 0, 4, 12);
        return x;
    }

    private static void promise20Read() {
        EventStore x = withCut();
        Due.is("read(0, 0) is hidden", EventStore.NONE, x.read(0, 0));
        Due.is("read(0, 1)", 1, x.read(0, 1));
        Due.is("read(0, 2)", 4, x.read(0, 2));
        Due.is("read(0, 3) is not there", EventStore.NONE, x.read(0, 3));
        Due.is("read(0, -1)", EventStore.NONE, x.read(0, -1));
        Due.is("read(3, 0)", 2, x.read(3, 0));
        Due.is("read(3, 1)", EventStore.NONE, x.read(3, 1));
        Due.is("read(1, 0)", EventStore.NONE, x.read(1, 0));
        Due.is("read(-1, 0)", EventStore.NONE, x.read(-1, 0));
        Due.is("read(5, 0)", EventStore.NONE, x.read(5, 0));
    }

    private static void promise21Next() {
        EventStore x = withCut();
        Due.is("next(MIN)", 1, x.next(Integer.MIN_VALUE));
        Due.is("next(0) passes the hidden one", 1, x.next(0));
        Due.is("next(1)", 1, x.next(1));
        Due.is("next(2)", 2, x.next(2));
        Due.is("next(3) passes the cut", 4, x.next(3));
        Due.is("next(4)", 4, x.next(4));
        Due.is("next(5)", EventStore.NONE, x.next(5));
        Due.is("next(MAX)", EventStore.NONE, x.next(Integer.MAX_VALUE));
        x = new EventStore();
        Stores.append(x, 0, 0, 5, 6);
        Due.is("next(-1) begins at 0", 0, x.next(-1));
        Due.is("next(0)", 0, x.next(0));
        Due.is("total(0, -1, 0) begins at 0", 5, x.total(0, -1, 0));
        Due.is("total(0, 0, 1)", 11, x.total(0, 0, 1));
    }

    private static void found(String when, EventStore x, int... wants) {
        for (int what = 0; what < wants.length; what++) {
            Due.is(when + ": found(" + what + ")", wants[what], x.found(what));
        }
        Due.is(when + ": found(-1)", 0, x.found(-1));
        Due.is(when + ": found(6)", 0, x.found(6));
    }

    private static void promise22Found() {
        EventStore x = withCut();
        found("at first", x, 0, 0, 0, 0, 0, 0);
        x.read(0, 2);
        found("read(0, 2)", x, 0, 2, 4, 12, -1, -1);
        x.next(2);
        found("next(2)", x, 3, 0, 2, -5, -1, -1);
        Stores.define(x, 1, Stores.VALUE, 0, Stores.EMIT, 14);
        x.work(1, 3);
        x.read(1, 2);
        found("an emitted one", x, 1, 2, 6, -5, 1, 2);
        x.cut(1, 3);
        found("hidden since", x, 1, 2, 6, -5, 1, 2);
        x.drop(1);
        x.flush();
        x.scavenge();
        found("removed since", x, 1, 2, 6, -5, 1, 2);
        x.crash(0);
        found("behind a crash", x, 0, 0, 0, 0, 0, 0);
    }

    private static void promise23Total() {
        EventStore x = withCut();
        Due.is("total(8, 0, 4)", 18, x.total(8, 0, 4));
        Due.is("total(8, MIN, MAX)", 18, x.total(8, Integer.MIN_VALUE, Integer.MAX_VALUE));
        Due.is("total(1, 0, 4)", 11, x.total(1, 0, 4));
        Due.is("total(2, 0, 4)", -5, x.total(2, 0, 4));
        Due.is("total(0, 0, 4)", 0, x.total(0, 0, 4));
        Due.is("total(8, 1, 1)", 11, x.total(8, 1, 1));
        Due.is("total(8, 2, 4)", 7, x.total(8, 2, 4));
        Due.is("total(8, 1, 3)", 6, x.total(8, 1, 3));
        Due.is("total(8, 2, 1)", 0, x.total(8, 2, 1));
        Due.is("total(8, 5, MAX)", 0, x.total(8, 5, Integer.MAX_VALUE));
        Due.is("total(8, MAX, MAX)", 0, x.total(8, Integer.MAX_VALUE, Integer.MAX_VALUE));
        Due.is("total(8, MIN, -1)", 0, x.total(8, Integer.MIN_VALUE, -1));
        Due.is("total(9, 0, 4)", 0, x.total(9, 0, 4));
        Due.is("total(-1, 0, 4)", 0, x.total(-1, 0, 4));
        x = new EventStore();
        Stores.append(x, 0, 7, Integer.MAX_VALUE, Integer.MAX_VALUE, Integer.MAX_VALUE);
        Stores.append(x, 0, 6, Integer.MIN_VALUE, Integer.MIN_VALUE, Integer.MIN_VALUE);
        Due.is("a sum above an int", 3L * Integer.MAX_VALUE, x.total(7, 0, 9));
        Due.is("a sum below an int", 3L * Integer.MIN_VALUE, x.total(6, 0, 9));
        Due.is("both", -3, x.total(8, 0, 9));
    }

    private static void promise24Version() {
        EventStore x = withCut();
        Due.is("version(0), hidden ones too, cuts not", 3, x.version(0));
        Due.is("version(3)", 1, x.version(3));
        Due.is("version(4)", 0, x.version(4));
        Due.is("version(-1)", EventStore.BAD, x.version(-1));
        Due.is("version(5)", EventStore.BAD, x.version(5));
    }

    private static void promise25Size() {
        EventStore x = withCut();
        x.flush();
        x.form(0, 8);
        Stores.append(x, 0, 0, 1, 2);
        Due.is("scavenge", 2, x.scavenge());
        Due.is("size(0)", 7, x.size(0));
        Due.is("size(1)", 5, x.size(1));
        Due.is("size(2)", 5, x.size(2));
        Due.is("size(3)", 5, x.size(3));
        Due.is("size(4)", EventStore.BAD, x.size(4));
        Due.is("size(-1)", EventStore.BAD, x.size(-1));
        x.flush();
        Due.is("size(1) flushed", 7, x.size(1));
        Due.is("size(3): LOW by the group", 5, x.size(3));
        x = withCut();
        x.flush();
        x.code(Stores.END, 0);
        Due.is("size(3): a draft does not count", 5, x.size(3));
        x.define(0);
        Stores.append(x, 0, 0, 1);
        x.flush();
        Due.is("size(3): LOW by a program of one instruction", 5, x.size(3));
        x.drop(0);
        Due.is("size(3): LOW without it", 6, x.size(3));
    }

    private static void promise26Found() {
        EventStore x = withCut();
        x.read(3, 0);
        x.read(0, 0);
        found("read of a hidden one", x, 3, 0, 2, -5, -1, -1);
        x.read(9, 9);
        found("read of none", x, 3, 0, 2, -5, -1, -1);
        x.next(5);
        found("next behind all", x, 3, 0, 2, -5, -1, -1);
    }
}
