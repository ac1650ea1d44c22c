/** Promises 1 to 7: a new object, event, append, cut, flush, crash, scavenge. */
public final class LogTest {
    public static void main(String[] args) {
        promise1NewObject();
        promise2Event();
        promise3Append();
        promise3AppendWhenFull();
        promise4Cut();
        promise4CutWhenFull();
        promise5Flush();
        promise5FlushKeepsStates();
        promise6CrashSparesWholeAppends();
        promise6CrashSparesEmittedOnesOneByOne();
        promise6CrashForgetsLostAppends();
        promise6CrashRestores();
        promise6CrashKeepsWhatWasCutBefore();
        promise7Scavenge();
        promise7ScavengeBelowLow();
        Due.end();
    }

    private static void promise1NewObject() {
        EventStore x = new EventStore();
        for (int what = 0; what < 4; what++) {
            Due.is("new: size(" + what + ")", 0, x.size(what));
        }
        for (int s = 0; s < 5; s++) {
            Due.is("new: version(" + s + ")", 0, x.version(s));
        }
        for (int p = 0; p < 3; p++) {
            Due.is("new: position(" + p + ")", EventStore.NONE, x.position(p));
            Due.is("new: define(" + p + ")", EventStore.BAD, x.define(p));
        }
        for (int g = 0; g < 2; g++) {
            Due.is("new: group(" + g + ", 0)", EventStore.BAD, x.group(g, 0));
        }
        Due.is("new: append(0, -2)", EventStore.BAD, x.append(0, -2));
        Due.is("new: next(0)", EventStore.NONE, x.next(0));
        Due.is("new: found(4)", 0, x.found(4));
        Due.is("new: flush()", 0, x.flush());
        Due.is("new: crash(0)", 0, x.crash(0));
        Due.is("new: scavenge()", 0, x.scavenge());
        Due.is("new: tick(100)", 0, x.tick(100));
    }

    private static void promise2Event() {
        EventStore x = new EventStore();
        Due.no("event(-1, 0)", x.event(-1, 0));
        Due.no("event(8, 0)", x.event(8, 0));
        Due.yes("event(0, MIN)", x.event(0, Integer.MIN_VALUE));
        Due.yes("event(7, MAX)", x.event(7, Integer.MAX_VALUE));
        Due.yes("event(3, 3)", x.event(3, 3));
        Due.yes("event(4, 4)", x.event(4, 4));
        Due.no("a fifth event", x.event(5, 5));
        Due.is("events are only drafted", 0, x.size(0));
        Due.is("append of four", 0, x.append(2, -1));
        Due.is("four records", 4, x.size(0));
        x.read(2, 0);
        Due.is("type of the first", 0, x.found(2));
        Due.is("value of the first", Integer.MIN_VALUE, x.found(3));
        x.read(2, 1);
        Due.is("type of the second", 7, x.found(2));
        Due.is("value of the second", Integer.MAX_VALUE, x.found(3));
        Due.yes("the draft is empty again", x.event(5, 5));
    }

    private static void promise3Append() {
        EventStore x = new EventStore();
        Due.is("append of nothing", EventStore.BAD, x.append(0, -2));
        x.event(1, 10);
        Due.is("append(-1, -2)", EventStore.BAD, x.append(-1, -2));
        Due.is("append(5, 9): BAD before CONFLICT", EventStore.BAD, x.append(5, 9));
        Due.is("append(4, 0) to an empty stream", EventStore.CONFLICT, x.append(4, 0));
        Due.is("append(4, -3)", EventStore.CONFLICT, x.append(4, -3));
        Due.is("append(4, -1) to an empty stream", 0, x.append(4, -1));
        Due.is("the draft is empty then", EventStore.BAD, x.append(4, -2));
        x.event(1, 11);
        x.event(1, 12);
        Due.is("append(4, -1) to a stream with one", EventStore.CONFLICT, x.append(4, -1));
        Due.is("append(4, 1)", EventStore.CONFLICT, x.append(4, 1));
        Due.is("append(4, 0): what was refused stayed drafted", 1, x.append(4, 0));
        Due.is("records", 3, x.size(0));
        Due.is("in order: version 1", 11, valueOf(x, 4, 1));
        Due.is("in order: version 2", 12, valueOf(x, 4, 2));
        x.cut(4, 3);
        x.event(1, 13);
        Due.is("a cut does not count as an event", 4, x.append(4, 2));
    }

    private static int valueOf(EventStore x, int s, int version) {
        x.read(s, version);
        return x.found(3);
    }

    private static void promise3AppendWhenFull() {
        EventStore x = new EventStore();
        Stores.fill(x, 37);
        for (int i = 0; i < 4; i++) {
            x.event(0, 0);
        }
        Due.is("four more than 37: CONFLICT before FULL", EventStore.CONFLICT, x.append(0, 0));
        Due.is("four more than 37", EventStore.FULL, x.append(0, 36));
        Due.is("nothing was appended", 37, x.size(0));
        Due.no("the draft is as it was", x.event(0, 0));
        x.crash(99);
        Due.is("three more than 37", 37, Stores.append(x, 1, 0, 1, 2, 3));
        Due.is("one more than 40", EventStore.FULL, Stores.append(x, 1, 0, 4));
        x.crash(0);
        Due.is("a crash emptied the draft", EventStore.BAD, x.append(0, -2));
    }

    private static void promise4Cut() {
        EventStore x = new EventStore();
        Stores.append(x, 0, 0, 1, 2, 3);
        Due.is("cut(-1, 0)", EventStore.BAD, x.cut(-1, 0));
        Due.is("cut(5, 0)", EventStore.BAD, x.cut(5, 0));
        Due.is("cut(0, -1)", EventStore.BAD, x.cut(0, -1));
        Due.is("cut(0, 4) above the number of events", EventStore.BAD, x.cut(0, 4));
        Due.is("cut(1, 1) above the number of events", EventStore.BAD, x.cut(1, 1));
        Due.is("nothing was cut", 3, x.size(0));
        Due.is("cut(1, 0) of an empty stream", 3, x.cut(1, 0));
        Due.is("cut(0, 0)", 4, x.cut(0, 0));
        Due.is("nothing hidden yet", 0, x.next(0));
        Due.is("cut(0, 2)", 5, x.cut(0, 2));
        Due.is("two are hidden", 2, x.next(0));
        Due.is("cut(0, 1) shows nothing again", 6, x.cut(0, 1));
        Due.is("two are still hidden", 2, x.next(0));
        Due.is("cut(0, 3) of all", 7, x.cut(0, 3));
        Due.is("all are hidden", EventStore.NONE, x.next(0));
        Due.is("events stay counted", 3, x.version(0));
        Due.is("an event behind the cut is not hidden", 8, Stores.append(x, 0, 0, 4));
        Due.is("it is shown", 8, x.next(0));
    }

    private static void promise4CutWhenFull() {
        EventStore x = new EventStore();
        Stores.fill(x, 39);
        Due.is("the 40th record", 39, x.cut(0, 1));
        Due.is("cut(0, 40): BAD before FULL", EventStore.BAD, x.cut(0, 40));
        Due.is("the 41st record", EventStore.FULL, x.cut(0, 1));
        x.flush();
        Due.is("scavenge makes room", 2, x.scavenge());
        Due.is("room for one", 40, x.cut(0, 39));
        Due.is("room for another", 41, x.cut(0, 39));
        Due.is("and no more", EventStore.FULL, x.cut(0, 39));
    }

    private static void promise5Flush() {
        EventStore x = new EventStore();
        Stores.append(x, 0, 0, 1, 2);
        x.cut(0, 1);
        Due.is("size(1) before", 0, x.size(1));
        Due.is("flush of three", 3, x.flush());
        Due.is("size(1) behind it", 3, x.size(1));
        Due.is("flush of nothing", 0, x.flush());
        Stores.append(x, 0, 0, 3);
        Due.is("flush of one", 1, x.flush());
        Stores.append(x, 0, 0, 4);
        Due.is("crash loses what was not flushed", 1, x.crash(0));
        Due.is("and nothing else", 4, x.size(0));
    }

    private static void promise5FlushKeepsStates() {
        EventStore x = new EventStore();
        Stores.defineSum(x, 0);
        Stores.defineSum(x, 1);
        x.form(0, 8);
        Stores.append(x, 0, 0, 5, 6, 7);
        x.work(0, 1);
        x.work(1, 2);
        x.note(0);
        x.work(0, 2);
        x.take(0);
        x.take(0);
        x.answer(0, 0, false);
        x.flush();
        x.crash(0);
        Due.is("the NOTED state was kept, not the newest", 1, x.position(0));
        Due.is("with its cells", 5, x.cell(0, 0, 0));
        Due.is("what was not NOTED was not kept", 0, x.position(1));
        Due.is("nor its cells", 0, x.cell(1, 0, 0));
        Due.is("the cursor was kept", 2, x.group(0, 0));
        Due.is("TAKEN and WAITING ones wait", 2, x.group(0, 2));
        Due.is("none is TAKEN", 0, x.group(0, 1));
    }

    private static void promise6CrashSparesWholeAppends() {
        for (int k = 0; k <= 9; k++) {
            EventStore x = new EventStore();
            Stores.append(x, 0, 0, 1, 2);
            x.flush();
            Stores.append(x, 0, 0, 3);
            Stores.append(x, 1, 0, 4, 5, 6);
            x.cut(0, 3);
            Stores.append(x, 0, 0, 7, 8);
            int stay = k == 0 ? 0 : k < 4 ? 1 : k < 5 ? 4 : k < 7 ? 5 : 7;
            Due.is("crash(" + k + ") of 1 + 3 + cut + 2", 7 - stay, x.crash(k));
            Due.is("records behind crash(" + k + ")", 2 + stay, x.size(0));
            Due.is("FLUSHED behind crash(" + k + ")", 2 + stay, x.size(1));
            Due.is("live ones behind crash(" + k + ")", 2 + stay, x.size(2));
            Due.is("version(0) behind crash(" + k + ")", stay == 0 ? 2 : stay < 7 ? 3 : 5, x.version(0));
            Due.is("version(1) behind crash(" + k + ")", stay < 4 ? 0 : 3, x.version(1));
            Due.is("next(0) behind crash(" + k + ")", stay < 4 ? 0 : stay < 5 ? 0 : 3, x.next(0));
        }
        EventStore x = new EventStore();
        Stores.append(x, 0, 0, 1, 2);
        Due.is("crash(-1)", EventStore.BAD, x.crash(-1));
        Due.is("crash(MIN)", EventStore.BAD, x.crash(Integer.MIN_VALUE));
        Due.is("nothing was lost", 2, x.size(0));
        Due.is("nothing was flushed", 0, x.size(1));
        Due.is("crash(MAX)", 0, x.crash(Integer.MAX_VALUE));
        Due.is("what was spared is flushed", 2, x.size(1));
    }

    private static void promise6CrashSparesEmittedOnesOneByOne() {
        EventStore x = new EventStore();
        Stores.define(x, 2, Stores.VALUE, 0, Stores.DUP, 0, Stores.EMIT, 8, Stores.EMIT, 8);
        Stores.append(x, 0, 0, 5);
        x.flush();
        x.work(2, 1);
        Due.is("two were emitted", 3, x.size(0));
        Due.is("one of them is spared", 1, x.crash(1));
        Due.is("the position is the kept one", 0, x.position(2));
        Due.is("work again", 1, x.work(2, 1));
        Due.is("only the lost one is emitted again", 3, x.size(0));
    }

    private static void promise6CrashForgetsLostAppends() {
        EventStore x = new EventStore();
        Stores.append(x, 0, 0, 1, 2, 3, 4);
        Due.is("all four are lost", 4, x.crash(3));
        for (int at = 0; at < 4; at++) {
            Due.is("a cut in their place", at, x.cut(0, 0));
        }
        Due.is("cuts are spared one by one", 2, x.crash(2));
    }

    private static void promise6CrashRestores() {
        EventStore x = new EventStore();
        Stores.append(x, 0, 0, 5, 6);
        x.flush();
        Stores.append(x, 0, 0, 7);
        Stores.defineSum(x, 0);
        x.work(0, 5);
        x.note(0);
        x.read(0, 0);
        x.event(0, 1);
        x.code(Stores.END, 0);
        Due.is("found before", 5, x.found(3));
        Due.is("crash(-1) changes nothing", EventStore.BAD, x.crash(-1));
        Due.is("found is still there", 5, x.found(3));
        Due.is("crash(1)", 0, x.crash(1));
        Due.is("found is none", 0, x.found(3));
        Due.is("found is none: 4", 0, x.found(4));
        Due.is("the draft of events is empty", EventStore.BAD, x.append(0, -2));
        Due.is("the draft of a program is empty", EventStore.BAD, x.define(1));
        Due.is("the projection still has its program", 2, x.position(0));
        Due.is("its cells are the kept ones", 0, x.cell(0, 0, 0));
        x.flush();
        x.crash(0);
        Due.is("the NOTED state was gone", 2, x.position(0));
    }

    private static void promise6CrashKeepsWhatWasCutBefore() {
        EventStore x = new EventStore();
        Stores.append(x, 0, 0, 1, 2, 3);
        x.cut(0, 1);
        x.flush();
        x.cut(0, 3);
        Due.is("all hidden", EventStore.NONE, x.next(0));
        x.crash(0);
        Due.is("the lost cut hides nothing, the flushed one does", 1, x.next(0));
        Due.is("what is appended then has its version", 4, Stores.append(x, 0, 0, 9));
        Due.is("read of it", 4, x.read(0, 3));
    }

    private static void promise7Scavenge() {
        EventStore x = new EventStore();
        Stores.append(x, 0, 0, 1, 2, 3);
        Stores.append(x, 1, 0, 4);
        x.cut(0, 2);
        Due.is("nothing is flushed", 0, x.scavenge());
        x.flush();
        x.cut(0, 3);
        x.cut(1, 1);
        Due.is("hidden by flushed cuts, and the cut", 3, x.scavenge());
        Due.is("records stay counted", 7, x.size(0));
        Due.is("live ones", 4, x.size(2));
        Due.is("versions stay counted", 3, x.version(0));
        Due.is("again", 0, x.scavenge());
        x.crash(0);
        Due.is("the removed cut still hides", EventStore.NONE, x.read(0, 1));
        Due.is("it hides no more than it did", 2, x.read(0, 2));
        Due.is("the removed ones give no position", EventStore.NONE, x.read(0, 0));
        Due.is("a cut behind FLUSHED is lost", 3, x.read(1, 0));
    }

    private static void promise7ScavengeBelowLow() {
        EventStore x = new EventStore();
        Stores.append(x, 0, 0, 1);
        x.flush();
        Stores.defineSum(x, 1);
        Stores.append(x, 0, 0, 2);
        x.cut(0, 2);
        x.flush();
        Due.is("LOW is the kept position", 1, x.size(3));
        Due.is("only what is below LOW, though the cut is behind it", 1, x.scavenge());
        x.work(1, 9);
        Due.is("the position now does not count", 1, x.size(3));
        x.note(1);
        Due.is("nor does the NOTED one", 1, x.size(3));
        Due.is("nothing more yet", 0, x.scavenge());
        x.flush();
        Due.is("the rest", 2, x.scavenge());
    }
}
