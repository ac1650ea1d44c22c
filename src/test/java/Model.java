import java.util.ArrayList;
import java.util.Comparator;
import java.util.List;
import java.util.Set;
import java.util.TreeSet;

/**
 * The document said again with the Java library, as near to its words as can be: nothing is counted ahead, every
 * answer comes from the log as it is. ModelTest holds EventStore against it.
 */
public final class Model {
    private static final int OK = 0, BAD = -1, CONFLICT = -2, FULL = -3, NONE = -4, FAULTY = 100;

    private record Origin(int projection, int position, int instruction) {
    }

    private record Drafted(int type, int value) {
    }

    private record Instruction(int op, int c) {
    }

    private record Held(int position, int times, int due) {
    }

    private static final class Entry {
        private final boolean cut;
        private final int stream;
        private final int type;
        private final int version;
        private final int value;
        private final Origin origin;
        private final int call;
        private boolean removed = false;

        private Entry(boolean cut, int stream, int type, int version, int value, Origin origin, int call) {
            this.cut = cut;
            this.stream = stream;
            this.type = type;
            this.version = version;
            this.value = value;
            this.origin = origin;
            this.call = call;
        }
    }

    private record State(int position, List<Integer> cells) {
        private State with(int index, int value) {
            List<Integer> other = new ArrayList<>(cells);
            other.set(index, value);
            return new State(position, other);
        }
    }

    private static final class Projection {
        private List<Instruction> program;
        private State now;
        private State kept;
        private State noted;
    }

    private static final class Group {
        private int type;
        private int cursor;
        private List<Held> taken = new ArrayList<>();
        private List<Held> waiting = new ArrayList<>();
        private int parked;
        private int keptCursor;
        private List<Held> kept = new ArrayList<>();
    }

    private final List<Entry> log = new ArrayList<>();
    private int flushed = 0;
    private final List<Drafted> events = new ArrayList<>();
    private final List<Instruction> codes = new ArrayList<>();
    private final Projection[] projections = new Projection[3];
    private final Group[] groups = new Group[2];
    private int time = 0;
    private Entry found = null;
    private int calls = 0;

    private boolean hidden(Entry e) {
        return log.stream().anyMatch(r -> r.cut && r.stream == e.stream && e.version < r.version);
    }

    private boolean shown(int position) {
        return !log.get(position).cut && !hidden(log.get(position));
    }

    private boolean room(int n) {
        long live = log.stream().filter(r -> !r.removed).count();
        return live + n <= 40 && log.size() + n <= 2000;
    }

    private static boolean outside(int i, int least, int most) {
        return i < least || i > most;
    }

    public boolean event(int t, int v) {
        if (outside(t, 0, 7) || events.size() == 4) {
            return false;
        }
        return events.add(new Drafted(t, v));
    }

    public int append(int s, int expected) {
        if (outside(s, 0, 4) || events.isEmpty()) {
            return BAD;
        }
        if (expected != -2 && expected != version(s) - 1) {
            return CONFLICT;
        }
        if (!room(events.size())) {
            return FULL;
        }
        int first = log.size();
        calls++;
        for (Drafted d : events) {
            log.add(new Entry(false, s, d.type, version(s), d.value, null, calls));
        }
        events.clear();
        return first;
    }

    public int cut(int s, int version) {
        if (outside(s, 0, 4) || outside(version, 0, version(s))) {
            return BAD;
        }
        if (!room(1)) {
            return FULL;
        }
        calls++;
        log.add(new Entry(true, s, -1, version, 0, null, calls));
        return log.size() - 1;
    }

    public int flush() {
        int grown = log.size() - flushed;
        flushed = log.size();
        for (Projection p : projections) {
            if (p != null && p.noted != null) {
                p.kept = p.noted;
                p.noted = null;
            }
        }
        for (Group g : groups) {
            if (g != null) {
                g.keptCursor = g.cursor;
                g.kept = new ArrayList<>(g.taken);
                g.kept.addAll(g.waiting);
            }
        }
        return grown;
    }

    public int crash(int k) {
        if (k < 0) {
            return BAD;
        }
        int before = log.size();
        int stays = flushed;
        while (stays < before) {
            int call = log.get(stays).call;
            long together = log.stream().filter(r -> r.call == call).count();
            if (stays - flushed + together > k) {
                break;
            }
            stays += (int) together;
        }
        log.subList(stays, before).clear();
        flushed = log.size();
        events.clear();
        codes.clear();
        found = null;
        for (Projection p : projections) {
            if (p != null) {
                p.noted = null;
                p.now = p.kept;
            }
        }
        for (Group g : groups) {
            if (g != null) {
                g.cursor = g.keptCursor;
                g.taken.clear();
                g.waiting = new ArrayList<>(g.kept);
                g.waiting.sort(Comparator.comparingInt(Held::position));
            }
        }
        return before - log.size();
    }

    private int low() {
        int low = flushed;
        for (Projection p : projections) {
            low = p == null ? low : Math.min(low, p.kept.position);
        }
        for (Group g : groups) {
            if (g != null) {
                low = Math.min(low, g.keptCursor);
                for (Held h : g.kept) {
                    low = Math.min(low, h.position);
                }
            }
        }
        return low;
    }

    public int scavenge() {
        List<Entry> safe = log.subList(0, flushed);
        int count = 0;
        for (Entry e : log.subList(0, low())) {
            boolean hiddenSafely = safe.stream().anyMatch(r -> r.cut && r.stream == e.stream && e.version < r.version);
            if (!e.removed && (e.cut || hiddenSafely)) {
                e.removed = true;
                count++;
            }
        }
        return count;
    }

    public boolean code(int op, int c) {
        if (outside(op, 0, 13) || codes.size() == 14) {
            return false;
        }
        return codes.add(new Instruction(op, c));
    }

    /** How many an op takes and leaves, as two digits. */
    private static int change(int op) {
        return new int[] {1, 1, 1, 1, 21, 21, 21, 21, 12, 10, 10, 0, 10, 0}[op];
    }

    private int faulty() {
        List<Set<Integer>> met = new ArrayList<>();
        for (int i = 0; i <= codes.size(); i++) {
            met.add(new TreeSet<>());
        }
        met.get(0).add(0);
        for (int i = 0; i < codes.size(); i++) {
            int op = codes.get(i).op;
            int c = codes.get(i).c;
            if ((op == 3 || op == 9) && outside(c, 0, 1) || op == 12 && outside(c, 0, 39)
                    || (op == 10 || op == 11) && outside(c, i + 1, codes.size()) || met.get(i).size() > 1) {
                return i;
            }
            for (int height : met.get(i)) {
                int behind = height - change(op) / 10 + change(op) % 10;
                if (height < change(op) / 10 || behind > 4) {
                    return i;
                }
                if (op != 11 && op != 13) {
                    met.get(i + 1).add(behind);
                }
                if (op == 10 || op == 11) {
                    met.get(c).add(behind);
                }
            }
        }
        return -1;
    }

    public int define(int p) {
        if (outside(p, 0, 2) || codes.isEmpty()) {
            return BAD;
        }
        int faulty = faulty();
        if (faulty < 0) {
            projections[p] = new Projection();
            projections[p].program = List.copyOf(codes);
            projections[p].now = new State(flushed, List.of(0, 0, 0, 0, 0, 0, 0, 0, 0, 0));
            projections[p].kept = projections[p].now;
        }
        codes.clear();
        return faulty < 0 ? OK : FAULTY + faulty;
    }

    private int standing(int p) {
        return outside(p, 0, 2) ? BAD : projections[p] == null ? NONE : OK;
    }

    public int drop(int p) {
        int standing = standing(p);
        if (standing == OK) {
            projections[p] = null;
        }
        return standing;
    }

    public int work(int p, int n) {
        if (outside(p, 0, 2) || outside(n, 1, 20)) {
            return BAD;
        }
        if (projections[p] == null) {
            return NONE;
        }
        int done = 0;
        while (done < n && projections[p].now.position < log.size()) {
            State behind = worked(p, projections[p].now);
            if (behind == null) {
                return FULL;
            }
            projections[p].now = behind;
            done++;
        }
        return done;
    }

    /** The state behind the record at its position, or null for FULL. */
    private State worked(int p, State state) {
        Entry e = log.get(state.position);
        State now = state;
        List<Integer> stack = new ArrayList<>();
        List<Instruction> program = projections[p].program;
        int i = e.cut ? program.size() : 0;
        while (i < program.size()) {
            int c = program.get(i).c;
            int goesOn = i + 1;
            switch (program.get(i).op) {
                case 0 -> stack.add(c);
                case 1 -> stack.add(e.value);
                case 2 -> stack.add(e.type);
                case 3 -> stack.add(now.cells.get(e.stream * 2 + c));
                case 8 -> stack.add(stack.get(stack.size() - 1));
                case 9 -> now = now.with(e.stream * 2 + c, last(stack));
                case 10 -> goesOn = last(stack) == 0 ? c : goesOn;
                case 11 -> goesOn = c;
                case 12 -> {
                    if (!emitted(new Origin(p, state.position, i), c, last(stack))) {
                        return null;
                    }
                }
                case 13 -> goesOn = program.size();
                default -> {
                    int y = last(stack);
                    int x = last(stack);
                    int op = program.get(i).op;
                    stack.add(op == 4 ? x + y : op == 5 ? x - y : op == 6 ? x * y : x < y ? 1 : 0);
                }
            }
            i = goesOn;
        }
        return new State(now.position + 1, now.cells);
    }

    private static int last(List<Integer> stack) {
        return stack.remove(stack.size() - 1);
    }

    private boolean emitted(Origin origin, int c, int value) {
        if (log.stream().anyMatch(r -> origin.equals(r.origin))) {
            return true;
        }
        if (!room(1)) {
            return false;
        }
        calls++;
        return log.add(new Entry(false, c / 8, c % 8, version(c / 8), value, origin, calls));
    }

    public int note(int p) {
        if (standing(p) == OK) {
            projections[p].noted = projections[p].now;
        }
        return position(p);
    }

    public int position(int p) {
        return standing(p) == OK ? projections[p].now.position : standing(p);
    }

    public int cell(int p, int s, int c) {
        if (standing(p) != OK || outside(s, 0, 4) || outside(c, 0, 1)) {
            return 0;
        }
        return projections[p].now.cells.get(s * 2 + c);
    }

    public int form(int g, int t) {
        if (outside(g, 0, 1) || outside(t, 0, 8)) {
            return BAD;
        }
        groups[g] = new Group();
        groups[g].type = t;
        groups[g].cursor = flushed;
        groups[g].keptCursor = flushed;
        return flushed;
    }

    public int take(int g) {
        if (outside(g, 0, 1)) {
            return BAD;
        }
        if (groups[g] == null) {
            return NONE;
        }
        Group group = groups[g];
        if (group.taken.size() == 6) {
            return FULL;
        }
        while (!group.waiting.isEmpty()) {
            Held h = group.waiting.remove(0);
            if (shown(h.position)) {
                group.taken.add(new Held(h.position, h.times + 1, time + 10));
                return h.position;
            }
        }
        while (group.cursor < log.size()) {
            int at = group.cursor++;
            if (shown(at) && (group.type == 8 || group.type == log.get(at).type)) {
                group.taken.add(new Held(at, 1, time + 10));
                return at;
            }
        }
        return NONE;
    }

    private static void giveBack(Group group, Held h) {
        group.taken.remove(h);
        if (h.times >= 3) {
            group.parked++;
        } else {
            group.waiting.add(h);
        }
    }

    public boolean answer(int g, int position, boolean good) {
        if (outside(g, 0, 1) || groups[g] == null) {
            return false;
        }
        for (Held h : groups[g].taken) {
            if (h.position == position) {
                if (good) {
                    groups[g].taken.remove(h);
                } else {
                    giveBack(groups[g], h);
                }
                return true;
            }
        }
        return false;
    }

    public int tick(int d) {
        if (outside(d, 0, 100)) {
            return BAD;
        }
        time += d;
        int count = 0;
        for (Group group : groups) {
            if (group != null) {
                List<Held> due = new ArrayList<>(group.taken);
                due.removeIf(h -> h.due > time);
                due.sort(Comparator.comparingInt(Held::due).thenComparingInt(Held::position));
                for (Held h : due) {
                    giveBack(group, h);
                    count++;
                }
            }
        }
        return count;
    }

    public int group(int g, int what) {
        if (outside(g, 0, 1) || groups[g] == null || outside(what, 0, 3)) {
            return BAD;
        }
        Group group = groups[g];
        return new int[] {group.cursor, group.taken.size(), group.waiting.size(), group.parked}[what];
    }

    public int read(int s, int version) {
        for (int at = 0; at < log.size(); at++) {
            Entry e = log.get(at);
            if (shown(at) && e.stream == s && e.version == version) {
                found = e;
                return at;
            }
        }
        return NONE;
    }

    public int next(int position) {
        for (int at = Math.max(0, position); at < log.size(); at++) {
            if (shown(at)) {
                found = log.get(at);
                return at;
            }
        }
        return NONE;
    }

    public int found(int what) {
        if (found == null || outside(what, 0, 5)) {
            return 0;
        }
        Origin origin = found.origin == null ? new Origin(-1, -1, -1) : found.origin;
        return new int[] {found.stream, found.version, found.type, found.value, origin.projection,
            origin.position}[what];
    }

    public long total(int t, int first, int last) {
        long sum = 0;
        for (int at = 0; at < log.size() && !outside(t, 0, 8); at++) {
            if (at >= first && at <= last && shown(at) && (t == 8 || t == log.get(at).type)) {
                sum += log.get(at).value;
            }
        }
        return sum;
    }

    public int version(int s) {
        return outside(s, 0, 4) ? BAD : (int) log.stream().filter(r -> !r.cut && r.stream == s).count();
    }

    public int size(int what) {
        int live = (int) log.stream().filter(r -> !r.removed).count();
        return outside(what, 0, 3) ? BAD : new int[] {log.size(), flushed, live, low()}[what];
    }
}
