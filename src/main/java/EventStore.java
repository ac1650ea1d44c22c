/**
 * An event store: streams in one log, projections that fold the log into cells and emit events, and groups of
 * consumers. The promises that are named in comments are those of the document (DOC.md).
 */
public final class EventStore {
    public static final int OK = 0, BAD = -1, CONFLICT = -2, FULL = -3, NONE = -4;
    public static final int FAULTY = 100;

    private static final int STREAMS = 5;
    private static final int TYPES = 8;
    private static final int ANY_TYPE = 8;
    private static final int ANY_VERSION = -2;
    private static final int RECORDS_MAX = 2000;
    private static final int LIVE_MAX = 40;
    private static final int DRAFT_MAX = 4;

    /** Stands in the place of an event's type where a record is a CUT. */
    private static final int CUT = -1;

    private static final int PROJECTIONS = 3;
    private static final int PROGRAM_MAX = 14;
    private static final int WORK_MAX = 20;
    /** The drafted program lies behind those of the projections, so that both are read in one way. */
    private static final int DRAFT = 3;
    private static final int PROGRAMS = 4;
    private static final int CODE_LENGTH = PROGRAMS * PROGRAM_MAX;

    private static final int OPS = 14;
    private static final int PUSH = 0, VALUE = 1, TYPE = 2, CELL = 3, ADD = 4, SUB = 5, MUL = 6, LESS = 7;
    private static final int DUP = 8, SET = 9, ZERO = 10, JUMP = 11, EMIT = 12, END = 13;
    private static final int EMIT_MAX = 39;

    private static final int STACK_MAX = 4;
    private static final int HEIGHTS_LENGTH = PROGRAM_MAX + 1;
    private static final int UNMET = -1;
    private static final int MET_TWICE = -2;

    /** A projection's state: two cells for each stream, then the position. */
    private static final int CELLS = 2;
    private static final int POSITION = 10;
    private static final int STATE_LENGTH = 11;
    /** The kinds of state that a projection has. */
    private static final int NOW = 0, KEPT = 1, NOTED = 2;
    private static final int STATES_LENGTH = 3 * PROJECTIONS * STATE_LENGTH;

    private static final int GROUPS = 2;
    private static final int UNFORMED = -1;
    /** The rows of events that a group has; KEPT_ROW holds the unacknowledged ones of its KEPT state. */
    private static final int TAKEN_ROW = 0, WAITING_ROW = 1, KEPT_ROW = 2;
    private static final int ROWS = 3;
    private static final int ALL_ROWS = GROUPS * ROWS;
    /**
     * An event is taken from the log only when none is WAITING and fewer than 6 are TAKEN, and all other ways lead
     * from one of these rows to the other, so that 6 is also the most that both hold together.
     */
    private static final int ROW_MAX = 6;
    private static final int ENTRIES_LENGTH = ALL_ROWS * ROW_MAX;
    private static final int TIMES_MAX = 3;
    private static final int DUE_AFTER = 10;
    private static final int TICK_MAX = 100;

    private final int[] recordStream = new int[RECORDS_MAX];
    private final int[] recordType = new int[RECORDS_MAX];
    private final int[] recordVersion = new int[RECORDS_MAX];
    private final int[] recordValue = new int[RECORDS_MAX];
    private final int[] originProjection = new int[RECORDS_MAX];
    private final int[] originPosition = new int[RECORDS_MAX];
    private final int[] originInstruction = new int[RECORDS_MAX];
    /** Whether a record came with the one before it, by one append call. */
    private final boolean[] joined = new boolean[RECORDS_MAX];
    private final boolean[] removed = new boolean[RECORDS_MAX];
    private int records = 0;
    private int removedCount = 0;
    private int flushed = 0;

    /** How many events each stream has, and the version below which its events are HIDDEN. */
    private final int[] eventCount = new int[STREAMS];
    private final int[] cutLevel = new int[STREAMS];

    private final int[] draftType = new int[DRAFT_MAX];
    private final int[] draftValue = new int[DRAFT_MAX];
    private int drafted = 0;

    private final int[] ops = new int[CODE_LENGTH];
    private final int[] arguments = new int[CODE_LENGTH];
    /** 0 where there is no program. */
    private final int[] programLength = new int[PROGRAMS];
    private final int[] states = new int[STATES_LENGTH];
    private final boolean[] noted = new boolean[PROJECTIONS];

    private final int[] stack = new int[STACK_MAX];
    private int height = 0;
    /** The heights with which the instructions of the draft, and the end behind them, are met. */
    private final int[] metHeight = new int[HEIGHTS_LENGTH];

    private final int[] groupType = new int[GROUPS];
    private final int[] cursor = new int[GROUPS];
    private final int[] keptCursor = new int[GROUPS];
    private final int[] parked = new int[GROUPS];
    private final int[] rowCount = new int[ALL_ROWS];
    private final int[] rowPosition = new int[ENTRIES_LENGTH];
    private final int[] rowTimes = new int[ENTRIES_LENGTH];
    private final int[] rowDue = new int[ENTRIES_LENGTH];
    private int time = 0;

    private int foundAt = NONE;

    /** Promise 1. */
    public EventStore() {
        for (int g = 0; g < GROUPS; g++) {
            groupType[g] = UNFORMED;
        }
    }

    // The log: promises 2 to 7.

    /** Promise 2. */
    public boolean event(int t, int v) {
        if (t < 0 || t >= TYPES || drafted >= DRAFT_MAX) {
            return false;
        }
        draftType[drafted] = t;
        draftValue[drafted] = v;
        drafted++;
        return true;
    }

    /** Promise 3. */
    public int append(int s, int expected) {
        if (!isStream(s) || drafted == 0) {
            return BAD;
        }
        if (expected != ANY_VERSION && expected != eventCount[s] - 1) {
            return CONFLICT;
        }
        if (!hasRoom(drafted)) {
            return FULL;
        }
        int first = records;
        for (int i = 0; i < drafted; i++) {
            addRecord(s, draftType[i], eventCount[s], draftValue[i]);
            joined[first + i] = i > 0;
        }
        drafted = 0;
        return first;
    }

    /** Promise 4. */
    public int cut(int s, int version) {
        if (!isStream(s) || version < 0 || version > eventCount[s]) {
            return BAD;
        }
        if (!hasRoom(1)) {
            return FULL;
        }
        addRecord(s, CUT, version, 0);
        return records - 1;
    }

    /** Promise 5. */
    public int flush() {
        int grown = records - flushed;
        flushed = records;
        for (int p = 0; p < PROJECTIONS; p++) {
            if (noted[p]) {
                copyState(p, NOTED, KEPT);
                noted[p] = false;
            }
        }
        for (int g = 0; g < GROUPS; g++) {
            keepGroup(g);
        }
        return grown;
    }

    /** Promise 6. */
    public int crash(int k) {
        if (k < 0) {
            return BAD;
        }
        int lost = records - sparedEnd(k);
        loseLast(lost);
        flushed = records;
        drafted = 0;
        programLength[DRAFT] = 0;
        for (int p = 0; p < PROJECTIONS; p++) {
            noted[p] = false;
            copyState(p, KEPT, NOW);
        }
        for (int g = 0; g < GROUPS; g++) {
            restoreGroup(g);
        }
        foundAt = NONE;
        return lost;
    }

    /** Promise 7. */
    public int scavenge() {
        int end = low();
        int before = removedCount;
        for (int s = 0; s < STREAMS; s++) {
            int level = cutLevelBelow(s, flushed);
            for (int at = 0; at < end; at++) {
                boolean goes = recordType[at] == CUT || recordVersion[at] < level;
                if (recordStream[at] == s && !removed[at] && goes) {
                    removed[at] = true;
                    removedCount++;
                }
            }
        }
        return removedCount - before;
    }

    // Projections: promises 8 to 14.

    /** Promise 8. */
    public boolean code(int op, int c) {
        int length = programLength[DRAFT];
        if (op < 0 || op >= OPS || length >= PROGRAM_MAX) {
            return false;
        }
        ops[DRAFT * PROGRAM_MAX + length] = op;
        arguments[DRAFT * PROGRAM_MAX + length] = c;
        programLength[DRAFT] = length + 1;
        return true;
    }

    /** Promise 9. */
    public int define(int p) {
        if (!isProjection(p) || programLength[DRAFT] == 0) {
            return BAD;
        }
        int faulty = firstFaulty();
        if (faulty == NONE) {
            install(p);
        }
        programLength[DRAFT] = 0;
        return faulty == NONE ? OK : FAULTY + faulty;
    }

    /** Promise 10. */
    public int drop(int p) {
        int standing = standing(p);
        if (standing == OK) {
            programLength[p] = 0;
            noted[p] = false;
        }
        return standing;
    }

    /** Promise 11. */
    public int work(int p, int n) {
        if (!isProjection(p) || n < 1 || n > WORK_MAX) {
            return BAD;
        }
        if (programLength[p] == 0) {
            return NONE;
        }
        int place = stateBase(p, NOW) + POSITION;
        int done = 0;
        while (done < n && states[place] < records) {
            if (!workOn(p, states[place])) {
                return FULL;
            }
            states[place]++;
            done++;
        }
        return done;
    }

    /** Promise 12. */
    public int note(int p) {
        int standing = standing(p);
        if (standing != OK) {
            return standing;
        }
        copyState(p, NOW, NOTED);
        noted[p] = true;
        return states[stateBase(p, NOW) + POSITION];
    }

    /** Promise 13. */
    public int position(int p) {
        int standing = standing(p);
        if (standing != OK) {
            return standing;
        }
        return states[stateBase(p, NOW) + POSITION];
    }

    /** Promise 14. */
    public int cell(int p, int s, int c) {
        if (standing(p) != OK || !isStream(s) || c < 0 || c >= CELLS) {
            return 0;
        }
        return states[stateBase(p, NOW) + s * CELLS + c];
    }

    // Groups: promises 15 to 19.

    /** Promise 15. */
    public int form(int g, int t) {
        if (g < 0 || g >= GROUPS || t < 0 || t > ANY_TYPE) {
            return BAD;
        }
        groupType[g] = t;
        cursor[g] = flushed;
        keptCursor[g] = flushed;
        parked[g] = 0;
        for (int kind = 0; kind < ROWS; kind++) {
            rowCount[g * ROWS + kind] = 0;
        }
        return flushed;
    }

    /** Promise 16. */
    public int take(int g) {
        if (g < 0 || g >= GROUPS) {
            return BAD;
        }
        if (groupType[g] == UNFORMED) {
            return NONE;
        }
        int taken = g * ROWS + TAKEN_ROW;
        if (rowCount[taken] >= ROW_MAX) {
            return FULL;
        }
        int waiting = g * ROWS + WAITING_ROW;
        passHidden(waiting);
        int at;
        int times = 1;
        if (rowCount[waiting] > 0) {
            at = rowPosition[waiting * ROW_MAX];
            times = rowTimes[waiting * ROW_MAX] + 1;
            removeEntry(waiting, 0);
        } else {
            at = takeFromLog(g);
        }
        if (at != NONE) {
            insertEntry(taken, rowCount[taken], at, times);
            rowDue[taken * ROW_MAX + rowCount[taken] - 1] = time + DUE_AFTER;
        }
        return at;
    }

    /** Promise 17. */
    public boolean answer(int g, int position, boolean good) {
        if (!isFormed(g)) {
            return false;
        }
        int taken = g * ROWS + TAKEN_ROW;
        for (int i = 0; i < rowCount[taken]; i++) {
            if (rowPosition[taken * ROW_MAX + i] == position) {
                if (good) {
                    removeEntry(taken, i);
                } else {
                    returnEntry(g, i);
                }
                return true;
            }
        }
        return false;
    }

    /** Promise 18. */
    public int tick(int d) {
        if (d < 0 || d > TICK_MAX) {
            return BAD;
        }
        time += d;
        int returned = 0;
        for (int g = 0; g < GROUPS; g++) {
            returned += returnDue(g);
        }
        return returned;
    }

    /** Promise 19. */
    public int group(int g, int what) {
        if (!isFormed(g)) {
            return BAD;
        }
        switch (what) {
            case 0:
                return cursor[g];
            case 1:
                return rowCount[g * ROWS + TAKEN_ROW];
            case 2:
                return rowCount[g * ROWS + WAITING_ROW];
            case 3:
                return parked[g];
            default:
                return BAD;
        }
    }

    // Finding and counting: promises 20 to 25.

    /** Promise 20. */
    public int read(int s, int version) {
        for (int at = 0; at < records; at++) {
            if (isShown(at) && recordStream[at] == s && recordVersion[at] == version) {
                foundAt = at;
                return at;
            }
        }
        return NONE;
    }

    /** Promise 21. */
    public int next(int position) {
        for (int at = position < 0 ? 0 : position; at < records; at++) {
            if (isShown(at)) {
                foundAt = at;
                return at;
            }
        }
        return NONE;
    }

    /** Promise 22. */
    public int found(int what) {
        if (foundAt < 0 || foundAt >= records) {
            return 0;
        }
        switch (what) {
            case 0:
                return recordStream[foundAt];
            case 1:
                return recordVersion[foundAt];
            case 2:
                return recordType[foundAt];
            case 3:
                return recordValue[foundAt];
            case 4:
                return originProjection[foundAt];
            case 5:
                return originPosition[foundAt];
            default:
                return 0;
        }
    }

    /** Promise 23. */
    public long total(int t, int first, int last) {
        if (t < 0 || t > ANY_TYPE) {
            return 0L;
        }
        long sum = 0L;
        for (int at = first < 0 ? 0 : first; at < records && at <= last; at++) {
            if (isShown(at) && (t == ANY_TYPE || recordType[at] == t)) {
                sum += recordValue[at];
            }
        }
        return sum;
    }

    /** Promise 24. */
    public int version(int s) {
        return isStream(s) ? eventCount[s] : BAD;
    }

    /** Promise 25. */
    public int size(int what) {
        switch (what) {
            case 0:
                return records;
            case 1:
                return flushed;
            case 2:
                return records - removedCount;
            case 3:
                return low();
            default:
                return BAD;
        }
    }

    // How records are added, hidden and lost.

    private boolean isStream(int s) {
        return s >= 0 && s < STREAMS;
    }

    private boolean hasRoom(int n) {
        return records - removedCount + n <= LIVE_MAX && records + n <= RECORDS_MAX;
    }

    /** Only called where there is room. */
    private void addRecord(int s, int type, int version, int value) {
        recordStream[records] = s;
        recordType[records] = type;
        recordVersion[records] = version;
        recordValue[records] = value;
        originProjection[records] = -1;
        originPosition[records] = -1;
        originInstruction[records] = -1;
        joined[records] = false;
        records++;
        if (type != CUT) {
            eventCount[s]++;
        } else if (version > cutLevel[s]) {
            cutLevel[s] = version;
        }
    }

    /** Whether the record is an EVENT that is not HIDDEN. */
    private boolean isShown(int at) {
        return recordType[at] != CUT && recordVersion[at] >= cutLevel[recordStream[at]];
    }

    private int cutLevelBelow(int s, int end) {
        int level = 0;
        for (int at = 0; at < end; at++) {
            if (recordStream[at] == s && recordType[at] == CUT && recordVersion[at] > level) {
                level = recordVersion[at];
            }
        }
        return level;
    }

    /** The end of the records that a crash which spares k leaves. */
    private int sparedEnd(int k) {
        if (k >= records - flushed) {
            return records;
        }
        int end = flushed + k;
        while (end > flushed && joined[end]) {
            end--;
        }
        return end;
    }

    /** None of these is REMOVED: only what was flushed ever is. */
    private void loseLast(int lost) {
        for (int i = 0; i < lost; i++) {
            records--;
            if (recordType[records] != CUT) {
                eventCount[recordStream[records]]--;
            }
        }
        for (int s = 0; s < STREAMS; s++) {
            cutLevel[s] = cutLevelBelow(s, records);
        }
    }

    private int low() {
        int least = flushed;
        for (int p = 0; p < PROJECTIONS; p++) {
            int kept = states[stateBase(p, KEPT) + POSITION];
            if (programLength[p] > 0 && kept < least) {
                least = kept;
            }
        }
        for (int g = 0; g < GROUPS; g++) {
            if (groupType[g] != UNFORMED) {
                int kept = lowOfGroup(g);
                least = kept < least ? kept : least;
            }
        }
        return least;
    }

    private int lowOfGroup(int g) {
        int least = keptCursor[g];
        int row = g * ROWS + KEPT_ROW;
        for (int i = 0; i < rowCount[row]; i++) {
            int at = rowPosition[row * ROW_MAX + i];
            least = at < least ? at : least;
        }
        return least;
    }

    // How programs are checked.

    /** The number of the first FAULTY instruction of the draft, or NONE. */
    private int firstFaulty() {
        int length = programLength[DRAFT];
        for (int i = 0; i <= length; i++) {
            metHeight[i] = UNMET;
        }
        metHeight[0] = 0;
        for (int i = 0; i < length; i++) {
            int op = ops[DRAFT * PROGRAM_MAX + i];
            int c = arguments[DRAFT * PROGRAM_MAX + i];
            if (!argumentFits(op, c, i, length)) {
                return i;
            }
            if (metHeight[i] != UNMET) {
                int left = metHeight[i] - takes(op);
                int behind = left + gives(op);
                if (metHeight[i] == MET_TWICE || left < 0 || behind > STACK_MAX) {
                    return i;
                }
                meetFollowers(op, c, i, behind);
            }
        }
        return NONE;
    }

    private boolean argumentFits(int op, int c, int i, int length) {
        switch (op) {
            case CELL:
            case SET:
                return c >= 0 && c < CELLS;
            case ZERO:
            case JUMP:
                return c > i && c <= length;
            case EMIT:
                return c >= 0 && c <= EMIT_MAX;
            default:
                return true;
        }
    }

    private int takes(int op) {
        switch (op) {
            case ADD:
            case SUB:
            case MUL:
            case LESS:
                return 2;
            case DUP:
            case SET:
            case ZERO:
            case EMIT:
                return 1;
            default:
                return 0;
        }
    }

    private int gives(int op) {
        switch (op) {
            case DUP:
                return 2;
            case SET:
            case ZERO:
            case JUMP:
            case EMIT:
            case END:
                return 0;
            default:
                return 1;
        }
    }

    private void meetFollowers(int op, int c, int i, int behind) {
        if (op == ZERO || op == JUMP) {
            meet(c, behind);
        }
        if (op != JUMP && op != END) {
            meet(i + 1, behind);
        }
    }

    private void meet(int i, int with) {
        if (metHeight[i] == UNMET) {
            metHeight[i] = with;
        } else if (metHeight[i] != with) {
            metHeight[i] = MET_TWICE;
        }
    }

    // How projections stand and work.

    private boolean isProjection(int p) {
        return p >= 0 && p < PROJECTIONS;
    }

    private int standing(int p) {
        if (!isProjection(p)) {
            return BAD;
        }
        return programLength[p] == 0 ? NONE : OK;
    }

    private int stateBase(int p, int kind) {
        return (kind * PROJECTIONS + p) * STATE_LENGTH;
    }

    private void copyState(int p, int from, int to) {
        int source = stateBase(p, from);
        int target = stateBase(p, to);
        for (int i = 0; i < STATE_LENGTH; i++) {
            states[target + i] = states[source + i];
        }
    }

    /** What the program before it NOTED goes with that program. */
    private void install(int p) {
        for (int i = 0; i < PROGRAM_MAX; i++) {
            ops[p * PROGRAM_MAX + i] = ops[DRAFT * PROGRAM_MAX + i];
            arguments[p * PROGRAM_MAX + i] = arguments[DRAFT * PROGRAM_MAX + i];
        }
        programLength[p] = programLength[DRAFT];
        int base = stateBase(p, NOW);
        for (int i = 0; i < STATE_LENGTH; i++) {
            states[base + i] = 0;
        }
        states[base + POSITION] = flushed;
        copyState(p, NOW, KEPT);
        noted[p] = false;
    }

    /** False if something emitted would be FULL: then the cells are as before, and what was appended stays. */
    private boolean workOn(int p, int at) {
        if (recordType[at] == CUT) {
            return true;
        }
        int cells = stateBase(p, NOW) + recordStream[at] * CELLS;
        int cell0 = states[cells];
        int cell1 = states[cells + 1];
        boolean whole = run(p, at, cells);
        if (!whole) {
            states[cells] = cell0;
            states[cells + 1] = cell1;
        }
        return whole;
    }

    /** Runs the program of p on the event at a position, whose cells are given; false for FULL. */
    private boolean run(int p, int at, int cells) {
        height = 0;
        int i = 0;
        for (int steps = 0; steps < PROGRAM_MAX && i < programLength[p]; steps++) {
            int op = ops[p * PROGRAM_MAX + i];
            int c = arguments[p * PROGRAM_MAX + i];
            int behind = i + 1;
            if (op == END) {
                behind = programLength[p];
            } else if (op == JUMP) {
                behind = c;
            } else if (op == ZERO) {
                behind = pop() == 0 ? c : behind;
            } else if (op == EMIT) {
                if (!emit(p, at, i, c)) {
                    return false;
                }
            } else if (op >= ADD && op <= LESS) {
                combine(op);
            } else {
                compute(op, c, at, cells);
            }
            i = behind;
        }
        return true;
    }

    private void compute(int op, int c, int at, int cells) {
        switch (op) {
            case PUSH:
                push(c);
                break;
            case VALUE:
                push(recordValue[at]);
                break;
            case TYPE:
                push(recordType[at]);
                break;
            case CELL:
                push(states[cells + c]);
                break;
            case SET:
                states[cells + c] = pop();
                break;
            default:
                int top = pop();
                push(top);
                push(top);
                break;
        }
    }

    private void combine(int op) {
        int y = pop();
        int x = pop();
        switch (op) {
            case ADD:
                push(x + y);
                break;
            case SUB:
                push(x - y);
                break;
            case MUL:
                push(x * y);
                break;
            default:
                push(x < y ? 1 : 0);
                break;
        }
    }

    private void push(int v) {
        if (height < STACK_MAX) {
            stack[height] = v;
            height++;
        }
    }

    private int pop() {
        if (height == 0) {
            return 0;
        }
        height--;
        return stack[height];
    }

    /** False for FULL. */
    private boolean emit(int p, int at, int instruction, int c) {
        int value = pop();
        if (wasEmitted(p, at, instruction)) {
            return true;
        }
        if (!hasRoom(1)) {
            return false;
        }
        int s = c / TYPES;
        addRecord(s, c % TYPES, eventCount[s], value);
        originProjection[records - 1] = p;
        originPosition[records - 1] = at;
        originInstruction[records - 1] = instruction;
        return true;
    }

    /** What is emitted for a record always comes behind it. */
    private boolean wasEmitted(int p, int at, int instruction) {
        for (int i = at + 1; i < records; i++) {
            if (originProjection[i] == p && originPosition[i] == at && originInstruction[i] == instruction) {
                return true;
            }
        }
        return false;
    }

    // How groups move their events.

    private boolean isFormed(int g) {
        return g >= 0 && g < GROUPS && groupType[g] != UNFORMED;
    }

    /** Makes room at an index of a row; a due time that belongs to it is set by the caller. */
    private void insertEntry(int row, int index, int at, int times) {
        if (rowCount[row] >= ROW_MAX) {
            return;
        }
        int base = row * ROW_MAX;
        for (int i = rowCount[row]; i > index; i--) {
            rowPosition[base + i] = rowPosition[base + i - 1];
            rowTimes[base + i] = rowTimes[base + i - 1];
        }
        rowPosition[base + index] = at;
        rowTimes[base + index] = times;
        rowCount[row]++;
    }

    private void removeEntry(int row, int index) {
        int base = row * ROW_MAX;
        rowCount[row]--;
        for (int i = index; i < rowCount[row]; i++) {
            rowPosition[base + i] = rowPosition[base + i + 1];
            rowTimes[base + i] = rowTimes[base + i + 1];
            rowDue[base + i] = rowDue[base + i + 1];
        }
    }

    /** Takes the HIDDEN ones from the front of a row of WAITING events, up to one that can be taken. */
    private void passHidden(int waiting) {
        for (int i = 0; i < ROW_MAX; i++) {
            if (rowCount[waiting] == 0 || isShown(rowPosition[waiting * ROW_MAX])) {
                return;
            }
            removeEntry(waiting, 0);
        }
    }

    private int takeFromLog(int g) {
        for (int at = cursor[g]; at < records; at++) {
            if (isShown(at) && (groupType[g] == ANY_TYPE || recordType[at] == groupType[g])) {
                cursor[g] = at + 1;
                return at;
            }
        }
        cursor[g] = records;
        return NONE;
    }

    /** RETURNS the TAKEN event with this index. */
    private void returnEntry(int g, int index) {
        int taken = g * ROWS + TAKEN_ROW;
        int waiting = g * ROWS + WAITING_ROW;
        int at = rowPosition[taken * ROW_MAX + index];
        int times = rowTimes[taken * ROW_MAX + index];
        removeEntry(taken, index);
        if (times >= TIMES_MAX) {
            parked[g]++;
        } else {
            insertEntry(waiting, rowCount[waiting], at, times);
        }
    }

    private int returnDue(int g) {
        for (int returned = 0; returned < ROW_MAX; returned++) {
            int index = firstDue(g);
            if (index == NONE) {
                return returned;
            }
            returnEntry(g, index);
        }
        return ROW_MAX;
    }

    /** The index of the TAKEN event that is to be RETURNED first at this TIME, or NONE. */
    private int firstDue(int g) {
        int taken = g * ROWS + TAKEN_ROW;
        int base = taken * ROW_MAX;
        int first = NONE;
        for (int i = 0; i < rowCount[taken]; i++) {
            if (rowDue[base + i] <= time && (first == NONE || isDueBefore(base + i, base + first))) {
                first = i;
            }
        }
        return first;
    }

    private boolean isDueBefore(int entry, int other) {
        if (rowDue[entry] != rowDue[other]) {
            return rowDue[entry] < rowDue[other];
        }
        return rowPosition[entry] < rowPosition[other];
    }

    private void keepGroup(int g) {
        keptCursor[g] = cursor[g];
        rowCount[g * ROWS + KEPT_ROW] = 0;
        keepRow(g, TAKEN_ROW);
        keepRow(g, WAITING_ROW);
    }

    /** Adds a row to the KEPT one, which lies by rising positions as a crash needs it. */
    private void keepRow(int g, int kind) {
        int row = g * ROWS + kind;
        int kept = g * ROWS + KEPT_ROW;
        for (int i = 0; i < rowCount[row]; i++) {
            int at = rowPosition[row * ROW_MAX + i];
            int index = 0;
            while (index < rowCount[kept] && rowPosition[kept * ROW_MAX + index] < at) {
                index++;
            }
            insertEntry(kept, index, at, rowTimes[row * ROW_MAX + i]);
        }
    }

    private void restoreGroup(int g) {
        int waiting = g * ROWS + WAITING_ROW;
        int kept = g * ROWS + KEPT_ROW;
        cursor[g] = keptCursor[g];
        rowCount[g * ROWS + TAKEN_ROW] = 0;
        rowCount[waiting] = 0;
        for (int i = 0; i < rowCount[kept]; i++) {
            insertEntry(waiting, i, rowPosition[kept * ROW_MAX + i], rowTimes[kept * ROW_MAX + i]);
        }
    }
}
