/** The greatest number of records, 2000 in all, which can be reached within 512 calls; 40 are in TermsTest. */
public final class LimitTest {
    private static final String SENTENCE = "at most 2000 in all: what would make more is FULL";
    /** What the first round makes and what each round behind it, and the records behind the last. */
    private static final int FIRST = 39, ROUND = 37, LAST = 1963;

    public static void main(String[] args) {
        appends();
        cuts();
        emitted();
        removedOnesCount();
        lostOnesDoNot();
        atTheEnd();
        refused();
        Due.end();
    }

    /**
     * A log of so many records, at least LAST. Each event emits the next, so that a round makes some forty records and
     * removes all but the last two of them; CUTS are what is left to the number. At 2000 records 39 aren't REMOVED.
     */
    private static String grown(int records) {
        StringBuilder run = new StringBuilder("define(0: VALUE, EMIT 0); put(0, 0: 77);");
        int made = 1;
        for (int end = FIRST; end <= LAST; end += ROUND) {
            int emitted = end - made - 1;
            run.append("work(0, 20); work(0, 17); cut(0, " + (events(made) + emitted) + ");");
            run.append("note(0); flush(); scavenge();");
            made = end;
        }
        run.append((records - made) + " * cut(0, 0);");
        return run.append("size(0) -> " + records + "; size(2) -> " + (records - made + 2) + ";").toString();
    }

    /** How many events there are where that many records are behind a round: all but one CUT for each. */
    private static int events(int records) {
        return records - (records < FIRST ? 0 : (records - FIRST) / ROUND + 1);
    }

    private static void appends() {
        String[] values = {"", "1", "1 2", "1 2 3", "1 2 3 4"};
        for (int n = 1; n <= 4; n++) {
            String put = "put(1, 5: " + values[n] + ")";
            Story.tell(SENTENCE + ": append up to 1999",
                grown(1999 - n), put + " -> " + (1999 - n) + "; size(0) -> 1999; version(1) -> " + n);
            Story.tell(SENTENCE + ": append up to 2000",
                grown(2000 - n), put + " -> " + (2000 - n) + "; size(0) -> 2000; version(1) -> " + n);
            Story.tell(SENTENCE + ": append up to 2001",
                grown(2001 - n), put + " -> FULL; size(0) -> " + (2001 - n) + "; version(1) -> 0",
                "append(1, 0) -> CONFLICT; append(5, -2) -> BAD; append(1, -1) -> FULL; total(5, 0, MAX) -> 0");
        }
        Story.tell(SENTENCE + ": one by one",
            grown(1998), "put(1, 5: 1) -> 1998; put(1, 5: 2) -> 1999; put(1, 5: 4) -> FULL; size(0) -> 2000",
            "size(2) -> 39; total(5, 0, MAX) -> 3");
    }

    private static void cuts() {
        Story.tell(SENTENCE + ": cut",
            grown(1998), "cut(1, 0) -> 1998; cut(1, 0) -> 1999; cut(1, 0) -> FULL; cut(1, 1) -> BAD",
            "cut(5, 0) -> BAD; size(0) -> 2000; size(2) -> 39");
    }

    private static void emitted() {
        Story.tell(SENTENCE + ": an emitted event up to 1999",
            grown(1998), "work(0, 1) -> 1; size(0) -> 1999; next(1998) -> 1998; found(3) -> 77");
        Story.tell(SENTENCE + ": an emitted event up to 2000",
            grown(1999), "work(0, 1) -> 1; size(0) -> 2000; next(1999) -> 1999; found(3) -> 77; found(5) -> 1961",
            "work(0, 20) -> 20; work(0, 20) -> FULL; position(0) -> 1999; size(0) -> 2000");
        Story.tell(SENTENCE + ": an emitted event up to 2001",
            grown(2000), "position(0) -> 1961; work(0, 1) -> FULL; position(0) -> 1961; size(0) -> 2000",
            "next(1999) -> NONE");
        Story.tell(SENTENCE + ": one whose ORIGIN is there needs none",
            grown(1999), "flush(); work(0, 1) -> 1; flush(); size(0) -> 2000; crash(0); position(0) -> 1961",
            "work(0, 1) -> 1; position(0) -> 1962; size(0) -> 2000");
    }

    private static void removedOnesCount() {
        Story.tell(SENTENCE + ": REMOVED ones too",
            grown(2000), "drop(0); flush(); scavenge() -> 39; size(2) -> 0; cut(0, 0) -> FULL; put(1, 0: 1) -> FULL",
            "size(0) -> 2000");
    }

    private static void lostOnesDoNot() {
        Story.tell(SENTENCE + ": lost ones not",
            grown(2000), "cut(0, 0) -> FULL; crash(36) -> 1; size(0) -> 1999; cut(0, 0) -> 1999; cut(0, 0) -> FULL",
            "crash(0) -> 1; size(0) -> 1999; put(1, 5: 6) -> 1999; cut(0, 0) -> FULL");
    }

    private static void atTheEnd() {
        String end = grown(1997) + "put(4, 6: 1 2 4) -> 1997; size(0) -> 2000;";
        Story.tell("2000 records: reading",
            end, "read(4, 2) -> 1999; found(0) -> 4; found(1) -> 2; found(2) -> 6; found(3) -> 4; found(4) -> -1",
            "next(1999) -> 1999; next(2000) -> NONE; next(1998) -> 1998", "total(6, 0, 1999) -> 7",
            "total(6, 1998, 1998) -> 2; total(8, 1998, MAX) -> 6; total(8, 2000, MAX) -> 0; version(4) -> 3");
        Story.tell("2000 records: flush, crash and scavenge",
            end, "crash(37) -> 0; size(1) -> 2000; flush() -> 0; crash(0) -> 0; size(0) -> 2000; drop(0) -> OK",
            "size(3) -> 2000; scavenge() -> 36; size(2) -> 3; version(4) -> 3");
        Story.tell("2000 records: what was appended by one call is lost as one",
            end, "size(1) -> 1963; crash(36) -> 3; size(0) -> 1997; version(4) -> 0");
        Story.tell("2000 records: groups",
            end, "form(0, 8) -> 1963; take(0) -> 1997; take(0) -> 1998; take(0) -> 1999; group(0, 0) -> 2000",
            "take(0) -> NONE; group(0, 0) -> 2000; answer(0, 1999, false) -> true; take(0) -> 1999; flush()",
            "size(3) -> 1961; form(1, 8) -> 2000; take(1) -> NONE");
        Story.tell("2000 records: a projection",
            end, "define(1: CELL 0, VALUE, ADD, SET 0) -> OK; position(1) -> 1963; work(1, 20) -> 20",
            "work(1, 20) -> 17; position(1) -> 2000; cell(1, 4, 0) -> 7; work(1, 1) -> 0; note(1) -> 2000");
    }

    /** What is FULL here leaves all as it was, the draft too. */
    private static void refused() {
        String looks = "size(0); size(1); size(2); size(3); version(0); version(1); position(0); next(1990); found(3);"
            + "cut(0, 0); append(1, -2); work(0, 2); flush(); scavenge(); crash(0); append(1, -2); size(0); version(0);"
            + "version(1)";
        String calls = "append(1, -2) -> FULL; append(1, 0) -> CONFLICT; cut(0, 0) -> FULL; work(0, 1) -> FULL";
        for (String call : calls.split(";")) {
            Story one = new Story();
            Story other = new Story();
            one.goOn(SENTENCE, grown(2000) + "event(1, 1)");
            other.goOn(SENTENCE, grown(2000) + "event(1, 1);" + call);
            boolean alike = one.goOn(SENTENCE, looks).equals(other.goOn(SENTENCE, looks));
            Due.yes(SENTENCE + ": " + call + " changes nothing", alike);
        }
    }
}
