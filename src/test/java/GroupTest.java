/** Promises 15 to 19, and what promise 26 says of take. */
public final class GroupTest {
    public static void main(String[] args) {
        promise15Form();
        promise15FormAnew();
        promise16Take();
        promise16TakeByType();
        promise16TakeHidden();
        promise16WaitingFirst();
        promise17Answer();
        promise17Parked();
        promise18Tick();
        promise18Order();
        promise19Group();
        promise6CrashAndGroups();
        promise6CrashKeepsHowOftenTaken();
        promise7ScavengeAndGroups();
        promise26Take();
        Due.end();
    }

    /** A group 0 for any type, and events with the values 0, 1, .. in stream 0 behind it. */
    private static EventStore withEvents(int events) {
        EventStore x = new EventStore();
        x.form(0, 8);
        Stores.fill(x, events);
        return x;
    }

    private static void takes(EventStore x, int g, int... positions) {
        for (int at : positions) {
            Due.is("take(" + g + ")", at, x.take(g));
        }
    }

    private static void stands(String when, EventStore x, int g, int... wants) {
        for (int what = 0; what < wants.length; what++) {
            Due.is(when + ": group(" + g + ", " + what + ")", wants[what], x.group(g, what));
        }
    }

    private static void promise15Form() {
        EventStore x = new EventStore();
        Due.is("form(-1, 0)", EventStore.BAD, x.form(-1, 0));
        Due.is("form(2, 0)", EventStore.BAD, x.form(2, 0));
        Due.is("form(0, -1)", EventStore.BAD, x.form(0, -1));
        Due.is("form(0, 9)", EventStore.BAD, x.form(0, 9));
        Due.is("nothing was formed", EventStore.BAD, x.group(0, 0));
        Stores.append(x, 0, 0, 1, 2);
        Due.is("form(1, 8) before a flush", 0, x.form(1, 8));
        x.flush();
        Stores.append(x, 0, 0, 3);
        Due.is("form(0, 0) behind a flush", 2, x.form(0, 0));
        stands("new", x, 0, 2, 0, 0, 0);
        stands("older", x, 1, 0, 0, 0, 0);
        takes(x, 0, 2, EventStore.NONE);
        takes(x, 1, 0);
    }

    private static void promise15FormAnew() {
        EventStore x = withEvents(6);
        takes(x, 0, 0, 1, 2);
        for (int i = 0; i < 3; i++) {
            x.answer(0, 0, false);
            x.take(0);
        }
        x.answer(0, 1, false);
        x.flush();
        stands("before", x, 0, 4, 2, 1, 1);
        Due.is("LOW before", 1, x.size(3));
        Due.is("form anew", 6, x.form(0, 3));
        stands("anew", x, 0, 6, 0, 0, 0);
        Due.is("LOW: the kept state is new too", 6, x.size(3));
        x.crash(0);
        stands("behind a crash", x, 0, 6, 0, 0, 0);
        Due.no("what was TAKEN is so no more", x.answer(0, 2, true));
        Stores.append(x, 0, 2, 1);
        Stores.append(x, 0, 3, 1);
        takes(x, 0, 7, EventStore.NONE);
    }

    private static void promise16Take() {
        EventStore x = new EventStore();
        Due.is("take(-1)", EventStore.BAD, x.take(-1));
        Due.is("take(2)", EventStore.BAD, x.take(2));
        Due.is("take of a group never formed", EventStore.NONE, x.take(0));
        x.form(0, 8);
        Due.is("take from nothing", EventStore.NONE, x.take(0));
        Stores.fill(x, 8);
        takes(x, 0, 0, 1, 2, 3, 4, 5);
        Due.is("a seventh", EventStore.FULL, x.take(0));
        stands("FULL changes nothing", x, 0, 6, 6, 0, 0);
        x.answer(0, 3, true);
        takes(x, 0, 6, EventStore.FULL);
        x.answer(0, 0, true);
        takes(x, 0, 7, EventStore.FULL);
        Due.is("the other group", 0, x.form(1, 0));
        takes(x, 1, 0, 1);
    }

    private static void promise16TakeByType() {
        EventStore x = new EventStore();
        x.form(0, 5);
        x.form(1, 8);
        for (int t = 0; t < 8; t++) {
            Stores.append(x, t % 5, t, t);
        }
        x.cut(0, 0);
        Stores.append(x, 3, 5, 9);
        takes(x, 0, 5);
        stands("behind the first", x, 0, 6, 1, 0, 0);
        takes(x, 0, 9, EventStore.NONE);
        takes(x, 1, 0, 1, 2, 3, 4, 5);
        for (int at = 0; at < 6; at++) {
            x.answer(1, at, true);
        }
        takes(x, 1, 6, 7, 9);
    }

    private static void promise16TakeHidden() {
        EventStore x = withEvents(6);
        takes(x, 0, 0, 1, 2);
        x.answer(0, 0, false);
        x.answer(0, 2, false);
        x.answer(0, 1, false);
        stands("three wait", x, 0, 3, 0, 3, 0);
        x.cut(0, 1);
        takes(x, 0, 2);
        stands("the hidden one at the front is gone", x, 0, 3, 1, 1, 0);
        x.cut(0, 5);
        takes(x, 0, 5);
        stands("the hidden ones of the log were passed over", x, 0, 6, 2, 0, 0);
        Due.yes("a hidden one that is TAKEN is returned", x.answer(0, 2, false));
        stands("it waits", x, 0, 6, 1, 1, 0);
        takes(x, 0, EventStore.NONE);
        stands("it waits no more", x, 0, 8, 1, 0, 0);
    }

    private static void promise16WaitingFirst() {
        EventStore x = withEvents(5);
        takes(x, 0, 0, 1, 2);
        x.answer(0, 1, false);
        x.answer(0, 0, false);
        takes(x, 0, 1, 0, 3);
        x.tick(9);
        x.answer(0, 0, false);
        takes(x, 0, 0);
        Due.is("DUE is TIME + 10 of the last take", 3, x.tick(1));
        Due.is("the one taken later", 1, x.tick(9));
        stands("it was taken three times", x, 0, 4, 0, 3, 1);
    }

    private static void promise17Answer() {
        EventStore x = withEvents(3);
        Due.no("none is TAKEN", x.answer(0, 0, true));
        takes(x, 0, 0, 1);
        Due.no("answer(-1, 0, true)", x.answer(-1, 0, true));
        Due.no("answer(2, 0, true)", x.answer(2, 0, true));
        Due.no("a group never formed", x.answer(1, 0, true));
        Due.no("one that is not TAKEN", x.answer(0, 2, true));
        Due.no("no position", x.answer(0, -1, false));
        Due.no("far behind", x.answer(0, Integer.MAX_VALUE, false));
        stands("nothing changed", x, 0, 2, 2, 0, 0);
        Due.yes("acknowledged", x.answer(0, 0, true));
        stands("one less", x, 0, 2, 1, 0, 0);
        Due.no("acknowledged twice", x.answer(0, 0, true));
        Due.yes("returned", x.answer(0, 1, false));
        stands("it waits", x, 0, 2, 0, 1, 0);
        Due.no("a WAITING one is not TAKEN", x.answer(0, 1, true));
    }

    private static void promise17Parked() {
        EventStore x = withEvents(2);
        for (int times = 1; times <= 3; times++) {
            takes(x, 0, 0);
            stands("before it is parked", x, 0, 1, 1, 0, 0);
            Due.yes("returned", x.answer(0, 0, false));
            stands("taken " + times + " times", x, 0, 1, 0, times < 3 ? 1 : 0, times < 3 ? 0 : 1);
        }
        takes(x, 0, 1);
        x.answer(0, 1, false);
        x.take(0);
        x.answer(0, 1, false);
        x.take(0);
        Due.yes("acknowledged the third time", x.answer(0, 1, true));
        stands("that is not parked", x, 0, 2, 0, 0, 1);
    }

    private static void promise18Tick() {
        EventStore x = withEvents(4);
        x.form(1, 8);
        Due.is("tick(-1)", EventStore.BAD, x.tick(-1));
        Due.is("tick(101)", EventStore.BAD, x.tick(101));
        takes(x, 0, 0);
        Due.is("tick(4)", 0, x.tick(4));
        takes(x, 0, 1);
        takes(x, 1, 0);
        Due.is("tick(5): not yet due", 0, x.tick(5));
        Due.is("tick(0)", 0, x.tick(0));
        Due.is("tick(1): due at TIME", 1, x.tick(1));
        stands("the first waits", x, 0, 2, 1, 1, 0);
        Due.is("tick(100): those of both groups", 2, x.tick(100));
        stands("group 0", x, 0, 2, 0, 2, 0);
        stands("group 1", x, 1, 1, 0, 1, 0);
        Due.is("none is TAKEN", 0, x.tick(100));
        for (int i = 0; i < 2; i++) {
            takes(x, 1, 0);
            Due.is("returned by time", 1, x.tick(10));
        }
        stands("parked by time", x, 1, 1, 0, 0, 1);
    }

    private static void promise18Order() {
        EventStore x = withEvents(6);
        takes(x, 0, 0, 1, 2);
        x.answer(0, 2, false);
        x.answer(0, 0, false);
        takes(x, 0, 2, 0);
        x.tick(1);
        x.answer(0, 0, false);
        takes(x, 0, 0, 3);
        Due.is("all four at once", 4, x.tick(50));
        stands("the one taken three times is parked", x, 0, 4, 0, 3, 1);
        takes(x, 0, 1, 2, 3, 4);
        x = withEvents(6);
        takes(x, 0, 0, 1, 2);
        x.answer(0, 0, false);
        x.tick(3);
        takes(x, 0, 0);
        x.tick(50);
        takes(x, 0, 1, 2, 0, 3);
    }

    private static void promise19Group() {
        EventStore x = new EventStore();
        Due.is("never formed", EventStore.BAD, x.group(1, 0));
        x.form(1, 8);
        Due.is("the other one is not formed", EventStore.BAD, x.group(0, 0));
        Due.is("group(-1, 0)", EventStore.BAD, x.group(-1, 0));
        Due.is("group(2, 0)", EventStore.BAD, x.group(2, 0));
        Due.is("group(1, -1)", EventStore.BAD, x.group(1, -1));
        Due.is("group(1, 4)", EventStore.BAD, x.group(1, 4));
        Stores.fill(x, 6);
        takes(x, 1, 0, 1, 2, 3);
        x.answer(1, 0, false);
        stands("one waits", x, 1, 4, 3, 1, 0);
    }

    private static void promise6CrashAndGroups() {
        EventStore x = withEvents(6);
        takes(x, 0, 0, 1, 2, 3);
        x.answer(0, 2, false);
        x.answer(0, 0, false);
        takes(x, 0, 2);
        x.answer(0, 2, false);
        x.answer(0, 3, true);
        x.flush();
        stands("kept", x, 0, 4, 1, 2, 0);
        x.tick(4);
        takes(x, 0, 0, 2, 4);
        x.answer(0, 2, false);
        x.answer(0, 1, true);
        stands("before the crash", x, 0, 5, 2, 0, 1);
        x.crash(0);
        stands("the kept ones wait, the parked ones stay counted", x, 0, 4, 0, 3, 1);
        Due.no("none is TAKEN", x.answer(0, 0, true));
        takes(x, 0, 0, 1, 2, 4);
        Due.is("TIME went on: not due at 13", 0, x.tick(9));
        Due.is("due at 14", 4, x.tick(1));
        stands("2 was taken three times", x, 0, 5, 0, 3, 2);
        x.crash(0);
        stands("the kept state outlives a crash", x, 0, 4, 0, 3, 2);
    }

    /** 0, 1 and 2 have been taken three times, twice and once when they are kept, in no order of positions. */
    private static void promise6CrashKeepsHowOftenTaken() {
        EventStore x = withEvents(3);
        takes(x, 0, 0, 1, 2);
        x.answer(0, 0, false);
        takes(x, 0, 0);
        x.answer(0, 1, false);
        takes(x, 0, 1);
        x.answer(0, 0, false);
        takes(x, 0, 0);
        x.flush();
        x.crash(0);
        takes(x, 0, 0, 1, 2);
        x.answer(0, 0, false);
        stands("0 is parked", x, 0, 3, 2, 0, 1);
        x.answer(0, 1, false);
        stands("1 is parked", x, 0, 3, 1, 0, 2);
        x.answer(0, 2, false);
        stands("2 waits", x, 0, 3, 0, 1, 2);
        x.crash(0);
        stands("all wait again", x, 0, 3, 0, 3, 2);
        x = withEvents(6);
        takes(x, 0, 0, 1, 2, 3, 4, 5);
        x.answer(0, 3, false);
        x.answer(0, 1, false);
        x.flush();
        x.crash(0);
        takes(x, 0, 0, 1, 2, 3, 4, 5, EventStore.FULL);
    }

    private static void promise7ScavengeAndGroups() {
        EventStore x = withEvents(6);
        x.cut(0, 6);
        x.flush();
        Due.is("LOW is the kept cursor", 0, x.size(3));
        Due.is("nothing below it", 0, x.scavenge());
        x = withEvents(6);
        takes(x, 0, 0, 1, 2, 3);
        x.answer(0, 0, true);
        x.answer(0, 1, true);
        x.answer(0, 3, false);
        Due.is("LOW before a flush", 0, x.size(3));
        x.cut(0, 6);
        x.flush();
        Due.is("LOW is the least that is unacknowledged", 2, x.size(3));
        x.answer(0, 2, true);
        Due.is("an answer does not change LOW", 2, x.size(3));
        Due.is("below it", 2, x.scavenge());
        x.flush();
        Due.is("LOW is a WAITING one", 3, x.size(3));
        takes(x, 0, EventStore.NONE);
        x.flush();
        Due.is("LOW behind them all", 7, x.size(3));
        Due.is("the rest", 5, x.scavenge());
    }

    private static void promise26Take() {
        EventStore x = withEvents(3);
        takes(x, 0, 0, 1);
        x.answer(0, 0, false);
        x.answer(0, 1, false);
        x.cut(0, 3);
        takes(x, 0, EventStore.NONE);
        stands("the cursor is the number of records, none waits", x, 0, 4, 0, 0, 0);
        x.form(1, 7);
        takes(x, 1, EventStore.NONE);
        stands("no event of its type", x, 1, 4, 0, 0, 0);
        Stores.append(x, 1, 7, 1);
        takes(x, 1, 4);
        x = withEvents(6);
        takes(x, 0, 0, 1, 2, 3, 4, 5);
        Due.is("six are returned", 6, x.tick(10));
        stands("six wait", x, 0, 6, 0, 6, 0);
        x.cut(0, 6);
        takes(x, 0, EventStore.NONE);
        stands("none of the six waits", x, 0, 7, 0, 0, 0);
    }
}
