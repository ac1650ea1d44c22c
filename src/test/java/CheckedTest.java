/** What the document's "Terms" say of instructions: what each does, its boundary cases, and when one is FAULTY. */
public final class CheckedTest {
    private static final String[] OPS = {"PUSH", "VALUE", "TYPE", "CELL", "ADD", "SUB", "MUL", "LESS", "DUP", "SET",
        "ZERO", "JUMP", "EMIT", "END"};
    private static final int[] TAKES = {0, 0, 0, 0, 2, 2, 2, 2, 1, 1, 1, 0, 1, 0};
    private static final int[] GIVES = {1, 1, 1, 1, 1, 1, 1, 1, 2, 0, 0, 0, 0, 0};
    private static final int MIN = Integer.MIN_VALUE;
    private static final int MAX = Integer.MAX_VALUE;
    private static final int STACK_MAX = 4;
    private static final int PROGRAM_MAX = 14;

    public static void main(String[] args) {
        arithmeticWraps();
        less();
        pushesOfTheEvent();
        cellsOfTheStream();
        zeroAndJump();
        emit();
        argumentsOfCells();
        argumentsOfEmit();
        argumentsOfJumps();
        otherArguments();
        heights();
        heightsBehind();
        twoHeights();
        notMet();
        theFirstFaulty();
        Due.end();
    }

    /** Runs a program on an event of type 3 with a value, in stream 2, and looks at the stream's cell 0. */
    private static void runs(String sentence, String program, int value, int want) {
        Story.tell(sentence + ": " + program + " of " + value, "define(0: " + program + ") -> OK; put(2, 3: " + value
            + "); work(0, 1) -> 1; cell(0, 2, 0) -> " + want);
    }

    private static void combines(String op, int x, int y, int want) {
        String sentence = "take y, then x, push x op y (arithmetic wraps)";
        runs(sentence, "VALUE, PUSH " + y + ", " + op + ", SET 0", x, want);
        runs(sentence + ", and no more is taken", "PUSH 77, VALUE, PUSH " + y + ", " + op + ", SET 1, SET 0", x, 77);
    }

    private static void arithmeticWraps() {
        combines("ADD", 5, 7, 12);
        combines("ADD", MAX - 1, 1, MAX);
        combines("ADD", MAX, 1, MIN);
        combines("ADD", MIN, -1, MAX);
        combines("ADD", MAX, MAX, -2);
        combines("ADD", MIN, MIN, 0);
        combines("SUB", 5, 7, -2);
        combines("SUB", MIN + 1, 1, MIN);
        combines("SUB", MIN, 1, MAX);
        combines("SUB", MAX, -1, MIN);
        combines("SUB", 0, MIN, MIN);
        combines("MUL", -5, 7, -35);
        combines("MUL", 46340, 46340, 2147395600);
        combines("MUL", 46341, 46341, -2147479015);
        combines("MUL", 65536, 32768, MIN);
        combines("MUL", 65536, 65536, 0);
        combines("MUL", MIN, -1, MIN);
        combines("MUL", MAX, MAX, 1);
    }

    private static void less() {
        combines("LESS", 6, 7, 1);
        combines("LESS", 7, 7, 0);
        combines("LESS", 8, 7, 0);
        combines("LESS", MIN, MAX, 1);
        combines("LESS", MAX, MIN, 0);
        combines("LESS", 0, MIN, 0);
        combines("LESS", MIN, 0, 1);
        combines("LESS", MIN, MIN, 0);
        combines("LESS", MAX, MAX, 0);
        combines("LESS", -1, 0, 1);
    }

    private static void pushesOfTheEvent() {
        for (int c : new int[] {MIN, -1, 0, 1, MAX}) {
            runs("PUSH c", "PUSH " + c + ", SET 0", 5, c);
            runs("VALUE of the event", "VALUE, SET 0", c, c);
            runs("DUP", "VALUE, DUP, SET 0, SET 1, CELL 1, SET 0", c, c);
        }
        for (int t = 0; t < 8; t++) {
            Story.tell("TYPE of the event", "define(0: TYPE, SET 1) -> OK; put(2, " + t + ": 9); work(0, 1) -> 1",
                "cell(0, 2, 1) -> " + t);
        }
        runs("DUP: below it stays what was there", "PUSH 4, VALUE, DUP, SET 1, SET 1, SET 0", 9, 4);
        Story.tell("on a stack of ints: empty for each event",
            "define(0: PUSH 1, PUSH 2, PUSH 3, VALUE, SET 0) -> OK", "put(0, 0: 7 8 9); work(0, 3) -> 3",
            "cell(0, 0, 0) -> 9");
    }

    private static void cellsOfTheStream() {
        for (int s = 0; s < 5; s++) {
            String put = "put(" + s + ", 0: 5); put(" + s + ", 0: 6);";
            for (int c = 0; c < 2; c++) {
                Story story = new Story();
                String sentence = "push cell c of the event's stream, take the top into cell c of the event's stream";
                story.goOn(sentence, "define(1: CELL " + c + ", PUSH 10, MUL, VALUE, ADD, SET " + c + ") -> OK");
                story.goOn(sentence, put + "work(1, 2) -> 2");
                for (int i = 0; i < 10; i++) {
                    story.goOn(sentence, "cell(1, " + i / 2 + ", " + i % 2 + ") -> " + (i == 2 * s + c ? 56 : 0));
                }
            }
        }
        runs("SET c: the cell is there for the next CELL", "VALUE, SET 0, CELL 0, DUP, ADD, SET 0", 5, 10);
        runs("CELL c: it stays in the cell", "VALUE, SET 0, CELL 0, SET 1", 5, 5);
    }

    private static void zeroAndJump() {
        String zero = "ZERO c: take the top; if it is 0 go on at instruction c";
        for (int value : new int[] {MIN, -1, 0, 1, MAX}) {
            runs(zero, "VALUE, ZERO 4, PUSH 5, JUMP 5, PUSH 6, SET 0", value, value == 0 ? 6 : 5);
            runs(zero + ": the end", "PUSH 1, SET 0, VALUE, ZERO 6, PUSH 2, SET 0", value, value == 0 ? 1 : 2);
            runs(zero + ": the next", "VALUE, ZERO 2, PUSH 3, SET 0", value, 3);
            runs(zero + ": the top is taken", "PUSH 4, VALUE, ZERO 3, SET 0", value, 4);
        }
        String jump = "JUMP c: go on at c";
        runs(jump, "PUSH 1, JUMP 3, END, SET 0", 0, 1);
        runs(jump + ": the next", "PUSH 1, JUMP 2, SET 0", 0, 1);
        runs(jump + ": the end", "PUSH 1, SET 0, JUMP 5, PUSH 2, SET 0", 0, 1);
        runs(jump + ": over twelve", "JUMP 13, END, END, END, END, END, END, END, END, END, END, END, END, END", 0, 0);
        runs(jump + ": from the first to the last but one",
            "JUMP 12, END, END, END, END, END, END, END, END, END, END, END, PUSH 8, SET 0", 0, 8);
    }

    private static void emit() {
        String sentence = "EMIT c: take the top, emit an event with this value, of type c mod 8, into stream c / 8";
        for (int c = 0; c < 40; c++) {
            Story.tell(sentence + ": " + c,
                "define(0: PUSH 4, VALUE, EMIT " + c + ", SET 0) -> OK; put(2, 5: -9)",
                "work(0, 1) -> 1; size(0) -> 2; next(1) -> 1; found(0) -> " + c / 8 + "; found(2) -> " + c % 8,
                "found(3) -> -9; found(1) -> " + (c / 8 == 2 ? 1 : 0) + "; found(4) -> 0; found(5) -> 0",
                "cell(0, 2, 0) -> 4");
        }
    }

    private static void checks(String sentence, String program, int faulty) {
        String want = faulty < 0 ? "OK" : "FAULTY+" + faulty;
        String position = faulty < 0 ? "0" : "NONE";
        Story.tell(sentence + ": " + program,
            "define(1: " + program + ") -> " + want + "; position(1) -> " + position);
    }

    private static void argumentsOfCells() {
        String sentence = "c is not as said: c (0 or 1)";
        for (int c : new int[] {MIN, -1, 0, 1, 2, MAX}) {
            boolean fits = c == 0 || c == 1;
            checks(sentence, "CELL " + c, fits ? -1 : 0);
            checks(sentence, "VALUE, SET " + c, fits ? -1 : 1);
            checks(sentence + ", not met", "END, CELL " + c, fits ? -1 : 1);
            checks(sentence + ", not met", "END, SET " + c, fits ? -1 : 1);
        }
    }

    private static void argumentsOfEmit() {
        String sentence = "c is not as said: (c 0..39)";
        for (int c : new int[] {MIN, -8, -1, 0, 1, 38, 39, 40, 41, MAX}) {
            boolean fits = c >= 0 && c <= 39;
            checks(sentence, "VALUE, EMIT " + c, fits ? -1 : 1);
            checks(sentence + ", not met", "END, EMIT " + c, fits ? -1 : 1);
        }
    }

    private static void argumentsOfJumps() {
        String sentence = "for ZERO and JUMP not above the instruction's own number"
            + " or above the number of instructions";
        for (int length = 3; length <= PROGRAM_MAX; length++) {
            for (int own = 1; own < length; own++) {
                for (int c : new int[] {MIN, -1, 0, own - 1, own, own + 1, length - 1, length, length + 1, MAX}) {
                    int faulty = c > own && c <= length ? -1 : own;
                    checks(sentence, padded("VALUE", own, "ZERO " + c, length), faulty);
                    checks(sentence, padded("VALUE", own, "JUMP " + c, length), faulty);
                    checks(sentence + ", not met", padded("END", own, "JUMP " + c, length), faulty);
                }
            }
        }
        for (int c : new int[] {-1, 0, 1, 2, 3}) {
            checks(sentence + ", the first", "JUMP " + c + ", END", c == 1 || c == 2 ? -1 : 0);
            checks(sentence + ", alone", "JUMP " + c, c == 1 ? -1 : 0);
        }
    }

    /** A program of that length that begins with first and has an instruction at a number, else only JUMPs and ENDs. */
    private static String padded(String first, int own, String instruction, int length) {
        StringBuilder program = new StringBuilder(first);
        for (int i = 1; i < length; i++) {
            program.append(i == own ? ", " + instruction : i < own ? ", JUMP " + (i + 1) : ", END");
        }
        return program.toString();
    }

    private static void otherArguments() {
        String sentence = "c is not as said: where nothing is said any c is as said";
        for (int c : new int[] {MIN, -1, 0, 1, 2, 14, 40, MAX}) {
            String program = "PUSH C, VALUE C, TYPE C, ADD C, SUB C, DUP C, MUL C, DUP C, LESS C, END C";
            checks(sentence, program.replace("C", "" + c), -1);
        }
    }

    private static String argument(int op, int number) {
        return op == 10 || op == 11 ? " " + (number + 1) : " 0";
    }

    private static String pushes(int height) {
        return "PUSH 1, ".repeat(height);
    }

    private static void heights() {
        for (int op = 0; op < 14; op++) {
            for (int height = 0; height <= STACK_MAX; height++) {
                boolean faulty = height < TAKES[op] || height - TAKES[op] + GIVES[op] > STACK_MAX;
                checks("a height is less than what it takes, or behind it above 4",
                    pushes(height) + OPS[op] + argument(op, height), faulty ? height : -1);
            }
        }
        checks("instruction 0 with 0", "SET 0", 0);
        checks("a height behind it above 4", "PUSH 1, PUSH 1, PUSH 1, PUSH 1, PUSH 1, ADD", 4);
    }

    /** As many can be taken behind an instruction as it leaves, and not one more. */
    private static void heightsBehind() {
        for (int op = 0; op < 13; op++) {
            for (int height = TAKES[op]; height - TAKES[op] + GIVES[op] <= STACK_MAX && height <= STACK_MAX; height++) {
                int behind = height - TAKES[op] + GIVES[op];
                String program = pushes(height) + OPS[op] + argument(op, height) + ", SET 0".repeat(behind);
                checks("any other with the height behind each instruction", program, -1);
                checks("any other with the height behind each instruction", program + ", SET 0", height + 1 + behind);
            }
        }
        checks("END: nothing goes on behind it", "PUSH 1, END, SET 0, SET 0", -1);
    }

    private static void twoHeights() {
        String sentence = "or it is met with two different heights";
        checks(sentence, "VALUE, ZERO 3, PUSH 5, END", 3);
        checks(sentence + ": one by ZERO, one from before", "VALUE, DUP, ZERO 4, SET 0, END", 4);
        checks(sentence + ": both by a JUMP or ZERO", "VALUE, ZERO 4, VALUE, JUMP 5, JUMP 5, END", 5);
        checks(sentence + ": both by ZERO", "VALUE, DUP, ZERO 6, ZERO 6, END, END, END", 6);
        checks(sentence + ": three, the first and the last alike",
            "VALUE, ZERO 7, VALUE, DUP, ZERO 7, ZERO 7, END, END", 7);
        checks(sentence + ": not two equal ones", "VALUE, ZERO 4, PUSH 5, JUMP 5, PUSH 6, SET 0", -1);
        checks(sentence + ": not two equal ones by ZERO", "VALUE, ZERO 6, VALUE, ZERO 6, END, END, END", -1);
        checks(sentence + ": ZERO to the next is one height", "VALUE, ZERO 2, END", -1);
        checks(sentence + ": not behind the last", "VALUE, ZERO 3, PUSH 5", -1);
        checks(sentence + ": not behind the last, by JUMP", "VALUE, ZERO 4, PUSH 5, JUMP 5, END", -1);
        checks(sentence + ": 1 or 2 where SET takes 1", "VALUE, DUP, ZERO 4, DUP, SET 0", 4);
        checks(sentence + ": 0 or 1 where it takes none", "VALUE, ZERO 3, VALUE, VALUE", 3);
        checks(sentence + ": where it is the last of 14",
            "VALUE, ZERO 13, JUMP 3, JUMP 4, JUMP 5, JUMP 6, JUMP 7, JUMP 8, JUMP 9, JUMP 10, JUMP 11, JUMP 12,"
            + " VALUE, END", 13);
    }

    private static void notMet() {
        String sentence = "An instruction that isn't met is only looked at for its c";
        checks(sentence + ": not for what it takes", "END, ADD, SET 1, EMIT 39, DUP, ZERO 6", -1);
        checks(sentence + ": not for what is above 4", "END, PUSH 1, PUSH 1, PUSH 1, PUSH 1, PUSH 1", -1);
        checks(sentence + ": behind a JUMP", "JUMP 2, ADD, END", -1);
        checks(sentence + ": its c", "JUMP 2, SET 2, END", 1);
        checks(sentence + ": its c, behind one that would be above 4",
            "JUMP 6, DUP, PUSH 1, PUSH 1, PUSH 1, EMIT 40, END", 5);
        String meets = "each instruction that is met and may go on at it";
        checks(meets + ": not the next of one that is not met", "JUMP 3, PUSH 1, PUSH 1, PUSH 1, SET 0", -1);
        checks(meets + ": nor where its JUMP goes", "JUMP 4, PUSH 1, PUSH 1, JUMP 5, PUSH 1, SET 0", -1);
        checks(meets + ": nor where its ZERO goes", "JUMP 5, PUSH 1, DUP, DUP, ZERO 6, PUSH 1, SET 0", -1);
        checks(meets + ": one behind END is met by ZERO", "VALUE, ZERO 3, END, ADD", 3);
        checks(meets + ": one behind JUMP is met by ZERO", "VALUE, ZERO 3, JUMP 4, SET 0, END", 3);
        checks(meets + ": JUMP does not go on behind it", "VALUE, JUMP 3, SET 1, SET 0", -1);
        checks(meets + ": END does not go on behind it", "VALUE, ZERO 4, PUSH 5, END, PUSH 6, SET 0", -1);
    }

    private static void theFirstFaulty() {
        String sentence = "going through the instructions in order, the first FAULTY one is found";
        checks(sentence + ": by c, then by height", "VALUE, SET 9, ADD", 1);
        checks(sentence + ": by height, then by c", "ADD, SET 9", 0);
        checks(sentence + ": by height, then by two heights", "VALUE, ZERO 4, ADD, PUSH 1, END", 2);
        checks(sentence + ": by two heights, then by c", "VALUE, ZERO 3, PUSH 1, END, CELL 2", 3);
        checks(sentence + ": by c, then by two heights", "VALUE, ZERO 4, CELL 2, DUP, END", 2);
        for (int number = 0; number < PROGRAM_MAX; number++) {
            String before = "VALUE, SET 0, ".repeat(number / 2) + (number % 2 == 1 ? "JUMP " + number + ", " : "");
            checks(sentence + ": FAULTY + " + number, before + "ADD", number);
            checks(sentence + ": FAULTY + " + number + " by c", before + "CELL 2", number);
        }
    }
}
