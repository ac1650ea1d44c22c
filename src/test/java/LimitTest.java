/** The greatest number of records: 40 that aren't REMOVED, and 2000 in all, reached within 512 calls. */
public final class LimitTest {
    private static int calls = 0;

    public static void main(String[] args) {
        EventStore x = new EventStore();
        Stores.define(x, 0, Stores.VALUE, 0, Stores.EMIT, 0);
        Stores.append(x, 0, 0, 77);
        calls += 5;
        int records = 0;
        for (int round = 0; round < 100 && records < 1960; round++) {
            records = grow(x);
        }
        for (int at = records; at < 1997; at++) {
            Due.is("cut(0, 0)", at, x.cut(0, 0));
            calls++;
        }
        reachTheEnd(x);
        Due.yes("at most 512 calls", calls <= 512);
        Due.end();
    }

    /** Each event emits the next, so that one round makes 36 of them and a cut, and removes them again. */
    private static int grow(EventStore x) {
        Due.is("work(0, 20)", 20, x.work(0, 20));
        Due.is("work(0, 17)", 17, x.work(0, 17));
        int end = x.cut(0, x.version(0)) + 1;
        x.note(0);
        x.flush();
        Due.yes("scavenge", x.scavenge() > 30);
        calls += 7;
        return end;
    }

    /** From 1997 records on; all that is FULL here is so with less than 40 live ones. */
    private static void reachTheEnd(EventStore x) {
        Due.is("live ones", 36, x.size(2));
        Due.is("four more than 1997", EventStore.FULL, Stores.append(x, 1, 0, 1, 2, 3, 4));
        Due.is("crash, for an empty draft", 0, x.crash(99));
        Due.is("two more than 1997", 1997, Stores.append(x, 1, 0, 1, 2));
        Due.is("one more than 1999", 1999, x.cut(0, 0));
        Due.is("a cut as the 2001st", EventStore.FULL, x.cut(0, 0));
        Due.is("an event as the 2001st", EventStore.FULL, Stores.append(x, 1, 0, 1));
        Due.is("an emitted one as the 2001st", EventStore.FULL, x.work(0, 20));
        Due.is("live ones", 39, x.size(2));
        Due.is("records", 2000, x.size(0));
        x.flush();
        x.drop(0);
        Due.yes("scavenge", x.scavenge() > 30);
        Due.is("scavenging makes no room here", EventStore.FULL, x.cut(0, 0));
        Due.is("the last event", 1998, x.read(1, 1));
        calls += 25;
    }
}
