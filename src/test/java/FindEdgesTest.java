/** The boundary cases that promises 20 to 25 name, and 26 for read and next, sentence by sentence. */
public final class FindEdgesTest {
    /** 0: s0 t1 10, 1: s0 t1 11, 2: s3 t2 -5, 3: a CUT of stream 0 at 1, 4: s0 t4 12. */
    private static final String LOG = "put(0, 1: 10 11) -> 0; put(3, 2: -5) -> 2; cut(0, 1) -> 3; put(0, 4: 12) -> 4;";
    private static final String FOUND_NONE =
        "found(0) -> 0; found(1) -> 0; found(2) -> 0; found(3) -> 0; found(4) -> 0; found(5) -> 0";
    private static final String FOUND_2 =
        "found(0) -> 3; found(1) -> 0; found(2) -> 2; found(3) -> -5; found(4) -> -1; found(5) -> -1";

    public static void main(String[] args) {
        promise20();
        promise21();
        promise22();
        promise22Emitted();
        promise23Types();
        promise23Positions();
        promise23Sums();
        promise24();
        promise25();
        promise26();
        Due.end();
    }

    private static void promise20() {
        String sentence = "Finds the EVENT of stream s with this version if it is there and not HIDDEN: its position,"
            + " else NONE";
        Story.tell(sentence + ": version",
            LOG, "read(0, MIN) -> NONE; read(0, -1) -> NONE; read(0, 0) -> NONE; read(0, 1) -> 1; read(0, 2) -> 4",
            "read(0, 3) -> NONE; read(0, MAX) -> NONE");
        Story.tell(sentence + ": stream",
            LOG, "read(MIN, 0) -> NONE; read(-1, 0) -> NONE; read(-1, 1) -> NONE; read(5, 0) -> NONE",
            "read(MAX, 0) -> NONE; read(3, 0) -> 2; read(3, 1) -> NONE; read(1, 0) -> NONE; read(4, 0) -> NONE");
        Story.tell(sentence + ": a CUT is none",
            "put(2, 0: 1 2); cut(2, 0) -> 2; read(2, 0) -> 0; cut(2, 2); read(2, 2) -> NONE; put(2, 0: 3)",
            "read(2, 2) -> 4");
        Story.tell(sentence + ": streams 0 and 4", "put(0, 0: 1); put(4, 0: 2); read(0, 0) -> 0; read(4, 0) -> 1");
        Story.tell(sentence + ": an empty log", "read(0, 0) -> NONE; read(4, 0) -> NONE; read(0, -1) -> NONE");
        Story.tell(sentence + ": not flushed, flushed, REMOVED",
            "put(0, 0: 1 2); read(0, 1) -> 1; flush(); read(0, 1) -> 1; cut(0, 1); flush(); scavenge()",
            "read(0, 1) -> 1; read(0, 0) -> NONE");
    }

    private static void promise21() {
        String sentence = "Finds the first EVENT at this position or later that is not HIDDEN: its position, else NONE";
        Story.tell(sentence,
            LOG, "next(MIN) -> 1; next(-1) -> 1; next(0) -> 1; next(1) -> 1; next(2) -> 2; next(3) -> 4",
            "next(4) -> 4; next(5) -> NONE; next(6) -> NONE; next(MAX) -> NONE");
        Story.tell(sentence + ": from 0 on",
            "put(0, 0: 1 2); next(MIN) -> 0; next(-1) -> 0; next(0) -> 0; next(1) -> 1; next(2) -> NONE");
        Story.tell(sentence + ": none",
            "next(0) -> NONE; next(-1) -> NONE; cut(0, 0); next(0) -> NONE; next(MAX) -> NONE; put(0, 0: 1)",
            "cut(0, 1); next(0) -> NONE; next(1) -> NONE");
        Story.tell(sentence + ": the last of 40", "fill(40); next(39) -> 39; next(40) -> NONE; next(0) -> 0");
    }

    private static void promise22() {
        Story.tell("(at first, and behind a crash, none)",
            LOG, FOUND_NONE, "next(2) -> 2", FOUND_2, "crash(9)", FOUND_NONE, "read(3, 0) -> 2", FOUND_2);
        Story.tell("what 0 its stream, 1 version, 2 type, 3 value, 4 the projection that emitted it (-1 none), 5"
            + " the position that it worked on (-1)",
            LOG, "read(0, 2) -> 4; found(0) -> 0; found(1) -> 2; found(2) -> 4; found(3) -> 12; found(4) -> -1",
            "found(5) -> -1");
        Story.tell("0 for any other what",
            LOG, "next(2) -> 2; found(MIN) -> 0; found(-1) -> 0; found(0) -> 3; found(5) -> -1; found(6) -> 0",
            "found(7) -> 0; found(MAX) -> 0");
        Story.tell("0 if there is none",
            "found(MIN) -> 0; found(-1) -> 0; found(6) -> 0; found(MAX) -> 0", FOUND_NONE);
        Story.tell("Of the event that read or next found last",
            LOG, "read(0, 1) -> 1; next(2) -> 2", FOUND_2, "next(4) -> 4; read(3, 0) -> 2", FOUND_2);
        Story.tell("Of the event that found last: whatever is called then",
            LOG, "next(2) -> 2; cut(3, 1); flush(); scavenge() -> 4; put(3, 7: 8); define(0: END); form(0, 8)",
            "total(8, 0, 9); tick(5)", FOUND_2);
        Story.tell("Of the event that found last: a crash that is BAD",
            LOG, "next(2) -> 2; crash(-1) -> BAD", FOUND_2);
        Story.tell("behind a crash, none: one that loses nothing",
            "put(3, 2: -5); flush(); next(0) -> 0; crash(0) -> 0", FOUND_NONE);
    }

    private static void promise22Emitted() {
        Story.tellEach("4 the projection that emitted it, 5 the position that it worked on", 3,
            "define(#: VALUE, EMIT 38); cut(0, 0); put(1, 0: 6 7); work(#, 3) -> 3; size(0) -> 5", "read(4, 0) -> 3",
            "found(0) -> 4; found(1) -> 0; found(2) -> 6; found(3) -> 6; found(4) -> #; found(5) -> 1",
            "read(4, 1) -> 4; found(1) -> 1; found(3) -> 7; found(4) -> #; found(5) -> 2; drop(#); found(4) -> #",
            "next(1) -> 1; found(4) -> -1; found(5) -> -1");
    }

    private static void promise23Types() {
        String sentence = "0 if t is outside 0..8";
        Story.tell(sentence,
            LOG, "total(MIN, 0, 9) -> 0; total(-1, 0, 9) -> 0; total(8, 0, 9) -> 18; total(9, 0, 9) -> 0",
            "total(MAX, 0, 9) -> 0");
        Story.tell("of type t (8: of any type)",
            "put(0, 0: 1); put(0, 1: 2); put(0, 2: 4); put(0, 3: 8); put(0, 4: 16); put(0, 5: 32); put(0, 6: 64)",
            "put(0, 7: 128); cut(1, 0)", "total(0, 0, 9) -> 1; total(1, 0, 9) -> 2; total(2, 0, 9) -> 4",
            "total(3, 0, 9) -> 8; total(4, 0, 9) -> 16; total(5, 0, 9) -> 32; total(6, 0, 9) -> 64",
            "total(7, 0, 9) -> 128; total(8, 0, 9) -> 255; total(9, 0, 9) -> 0");
        Story.tell("all EVENTS that are not HIDDEN",
            "put(0, 1: 1 2 4); put(1, 1: 8); cut(0, 2); total(1, 0, 9) -> 12; total(8, 0, 9) -> 12; flush()",
            "scavenge(); total(8, 0, 9) -> 12; cut(1, 1); total(8, 0, 9) -> 4; crash(0); total(8, 0, 9) -> 12");
    }

    private static void promise23Positions() {
        String sentence = "have positions from first up to last, both included";
        Story.tell(sentence,
            "put(0, 1: 1 2 4 8); total(8, 1, 2) -> 6; total(8, 0, 2) -> 7; total(8, 1, 3) -> 14",
            "total(8, 2, 2) -> 4; total(8, 2, 1) -> 0; total(8, 3, 0) -> 0; total(8, 3, 3) -> 8",
            "total(8, 0, 0) -> 1");
        Story.tell(sentence + ": beyond the log",
            "put(0, 1: 1 2 4 8); total(8, -1, 0) -> 1; total(8, -9, -1) -> 0; total(8, -1, -1) -> 0",
            "total(8, 3, 4) -> 8; total(8, 4, 9) -> 0; total(8, 4, 4) -> 0");
        Story.tell(sentence + ": far beyond the log",
            "put(0, 1: 1 2 4 8); total(8, MIN, MAX) -> 15; total(8, MAX, MIN) -> 0; total(8, MIN, MIN) -> 0",
            "total(8, MAX, MAX) -> 0; total(8, 0, MAX) -> 15; total(8, MIN, 3) -> 15; total(8, MIN, 2) -> 7");
        Story.tell(sentence + ": an empty log", "total(8, 0, 0) -> 0; total(0, MIN, MAX) -> 0");
    }

    private static void promise23Sums() {
        String sentence = "long total: the sum of the values";
        Story.tell(sentence + ": above an int",
            "put(0, 1: MAX 1); total(1, 0, 1) -> 2147483648; total(8, 0, 0) -> MAX; put(0, 1: MAX MAX MAX)",
            "total(1, 0, 9) -> 8589934589");
        Story.tell(sentence + ": below an int",
            "put(0, 1: MIN -1); total(1, 0, 1) -> -2147483649; put(0, 1: MIN MIN MIN)",
            "total(8, 0, 9) -> -8589934593");
        Story.tell(sentence + ": 40 of the greatest",
            "10 * put(4, 7: MAX MAX MAX MAX); total(7, 0, 39) -> 85899345880; total(8, 0, 38) -> 83751862233");
        Story.tell(sentence + ": 40 of the least",
            "10 * put(4, 7: MIN MIN MIN MIN); total(7, 0, 39) -> -85899345920");
    }

    private static void promise24() {
        Story.tell("BAD if s is outside",
            "version(MIN) -> BAD; version(-1) -> BAD; version(0) -> 0; version(4) -> 0; version(5) -> BAD",
            "version(MAX) -> BAD");
        Story.tellEach("How many EVENTS stream s has", 5,
            "version(#) -> 0; put(#, 0: 1 2); version(#) -> 2; cut(#, 1); version(#) -> 2; cut(#, 2)",
            "version(#) -> 2; flush(); scavenge(); version(#) -> 2; put(#, 0: 3); version(#) -> 3; crash(0)",
            "version(#) -> 2");
        Story.tell("How many EVENTS stream s has: each its own",
            "put(0, 0: 1); put(1, 0: 1 2); put(2, 0: 1 2 3); put(3, 0: 1 2 3 4); put(4, 0: 1 2); version(0) -> 1",
            "version(1) -> 2; version(2) -> 3; version(3) -> 4; version(4) -> 2; version(5) -> BAD");
        Story.tell("How many EVENTS stream s has: 40", "fill(40); version(0) -> 40; version(1) -> 0");
    }

    private static void promise25() {
        Story.tell("BAD for any other",
            LOG, "size(MIN) -> BAD; size(-1) -> BAD; size(0) -> 5; size(3) -> 0; size(4) -> BAD; size(5) -> BAD",
            "size(MAX) -> BAD");
        Story.tell("0: the number of records; 1: FLUSHED; 2: records that aren't REMOVED; 3: LOW",
            LOG, "flush(); form(0, 8); put(1, 0: 1); flush(); put(1, 0: 2); scavenge() -> 2; size(0) -> 7",
            "size(1) -> 6; size(2) -> 5; size(3) -> 5");
    }

    private static void promise26() {
        String sentence = "read and next that answer NONE leave what was found last";
        Story.tell(sentence + ": read",
            LOG, "next(2) -> 2; read(0, 0) -> NONE", FOUND_2, "read(0, 3) -> NONE; read(0, -1) -> NONE",
            "read(5, 0) -> NONE; read(-1, 0) -> NONE", FOUND_2);
        Story.tell(sentence + ": next", LOG, "read(3, 0) -> 2; next(5) -> NONE; next(MAX) -> NONE", FOUND_2);
        Story.tell(sentence + ": where nothing was found", LOG, "read(0, 0) -> NONE; next(5) -> NONE", FOUND_NONE);
        Story.tell(sentence + ": one that is HIDDEN since",
            LOG, "next(2) -> 2; cut(3, 1); read(3, 0) -> NONE", FOUND_2, "cut(0, 3); next(0) -> NONE", FOUND_2);
    }
}
