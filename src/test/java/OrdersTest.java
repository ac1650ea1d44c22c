import java.util.ArrayList;
import java.util.List;

/**
 * All orders of three calls, of each promise that changes something, behind some states, on EventStore and on Model.
 * Then both are looked at from all sides, and once more behind a crash, which shows what was KEPT.
 */
public final class OrdersTest {
    private static final String[] STATES = {
        "",
        // One event TAKEN and one WAITING, a NOTED state that was flushed, and work that was not.
        "form(0, 8); define(0: CELL 0, VALUE, ADD, DUP, SET 0, EMIT 8); put(0, 1: 3 4); 2 * take(0);"
            + "answer(0, 1, false); work(0, 1); note(0); flush(); put(0, 2: 5); work(0, 1)",
        // Drafts of both kinds, a CUT that is flushed and one that is not, an event taken for the third time.
        "put(0, 1: 1 2 3); form(0, 1); take(0); tick(10); take(0); tick(10); take(0); cut(0, 1); flush();"
            + "put(1, 1: 4 5); cut(0, 2); define(0: VALUE, SET 0); event(1, 6); code(TYPE, 0); code(EMIT, 9); next(3)",
        // One place is left, and a scavenge would make more.
        "put(0, 1: 1 2); cut(0, 2); flush(); form(0, 8); define(0: VALUE, EMIT 1, VALUE, EMIT 9); put(0, 1: 7 8);"
            + "fill(34); 2 * take(0); event(1, 9)"
    };
    private static final String[] CALLS = {
        "event(1, 7)", "append(0, -2)", "append(1, 0)", "cut(0, 1)", "flush()", "crash(0)", "crash(1)", "scavenge()",
        "code(VALUE, 0)", "define(0)", "drop(0)", "work(0, 1)", "work(0, 20)", "note(0)", "form(0, 1)", "take(0)",
        "answer(0, 0, false)", "answer(0, 3, true)", "tick(10)", "next(0)", "read(1, 0)"
    };
    private static final String LOOKS = "position(0); cell(0, 0, 0); cell(0, 1, 0); group(0, 0); group(0, 1);"
        + "group(0, 2); group(0, 3); found(0); found(1); found(2); found(3); found(4); found(5); next(0); read(1, 0);"
        + "total(1, 0, 99); total(8, 2, 99); version(0); version(1); size(0); size(1); size(2); size(3)";

    public static void main(String[] args) {
        for (String state : STATES) {
            for (String run : orders()) {
                look(state, run);
            }
        }
        Due.end();
    }

    private static List<String> orders() {
        List<String> runs = new ArrayList<>();
        for (String first : CALLS) {
            for (String second : CALLS) {
                for (String third : CALLS) {
                    runs.add(String.join("; ", first, second, third));
                }
            }
        }
        return runs;
    }

    private static void look(String state, String run) {
        if (!Due.allWell()) {
            return;
        }
        Twin twin = new Twin();
        twin.goOn(state);
        twin.goOn(run);
        twin.goOn(LOOKS);
        twin.goOn("crash(1); take(0)");
        twin.goOn(LOOKS);
        if (!Due.allWell()) {
            twin.print();
        }
    }
}
