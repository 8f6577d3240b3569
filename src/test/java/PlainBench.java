import java.util.ArrayList;
import java.util.Comparator;
import java.util.HashMap;
import java.util.List;
import java.util.Map;

/** The document read a second time, as plainly as can be, with the Java library: ModelTest holds CohereBench to it. */
final class PlainBench {
    static final int NONE = -1;

    static final class Note {
        int kind;
        int from;
        int to;
        int whom;
        boolean fresh;

        Note(int kind, int from, int to, int whom, boolean fresh) {
            this.kind = kind;
            this.from = from;
            this.to = to;
            this.whom = whom;
            this.fresh = fresh;
        }
    }

    static final class All {
        int[] state = new int[5];
        boolean[] fresh = new boolean[5];
        int[] wants = new int[5];
        boolean[] holder = new boolean[4];
        List<Note> notes = new ArrayList<>();

        All copy() {
            All c = new All();
            c.state = state.clone();
            c.fresh = fresh.clone();
            c.wants = wants.clone();
            c.holder = holder.clone();
            for (Note n : notes) {
                c.notes.add(new Note(n.kind, n.from, n.to, n.whom, n.fresh));
            }
            return c;
        }
    }

    static final class Move {
        int end;
        int event;
        Note note;
        Integer row;
    }

    static final class Spot {
        All all;
        int depth;
        List<Integer> way = new ArrayList<>();
        List<Integer> next = new ArrayList<>();
    }

    private int processors = 2;
    private final boolean[] loose = new boolean[16];
    private final int[] rights = new int[16];
    private final Map<Integer, int[]> table = new HashMap<>();
    private All run = first();

    private boolean valid = false;
    private List<Spot> spots = new ArrayList<>();
    private Map<String, Integer> numbers = new HashMap<>();
    private List<int[]> bads = new ArrayList<>();
    private List<Integer> stuck = new ArrayList<>();
    private List<Integer> lost = new ArrayList<>();
    private Map<Integer, Boolean> usedRows = new HashMap<>();
    private int tried = 0;
    private int quiets = 0;
    private boolean spent = false;

    private All first() {
        All a = new All();
        a.fresh[processors] = true;
        return a;
    }

    private void changed() {
        run = first();
        valid = false;
    }

    int processors(int n) {
        if (n < 1 || n > 4) return NONE;
        int was = processors;
        processors = n;
        changed();
        return was;
    }

    int net(int kind, int how) {
        if (kind < 0 || kind > 15 || how < 0 || how > 1) return NONE;
        int was = loose[kind] ? 1 : 0;
        loose[kind] = how == 1;
        changed();
        return was;
    }

    int right(int state, int right) {
        if (state < 0 || state > 15 || right < 0 || right > 2) return NONE;
        int was = rights[state];
        rights[state] = right;
        changed();
        return was;
    }

    private static boolean noPlace(int where) {
        if (where < 0) return true;
        int side = where / (16 * 64 * 16);
        int event = where / 16 % 64;
        return side > 1 || event > (side == 0 ? 18 : 31);
    }

    int row(int where, int a, int b) {
        int n = where % 16;
        if (noPlace(where) || n > 8) return NONE;
        long both = ((long) a << 32) | (b & 0xFFFFFFFFL);
        int[] acts = new int[n];
        for (int i = 0; i < n; i++) {
            acts[i] = (int) (both >>> (56 - 8 * i)) & 255;
        }
        boolean was = table.put(where / 16, acts) != null;
        changed();
        return was ? 1 : 0;
    }

    int tear(int where) {
        if (noPlace(where)) return NONE;
        boolean was = table.remove(where / 16) != null;
        changed();
        return was ? 1 : 0;
    }

    int rows(int side) {
        if (side != 0 && side != 1) return NONE;
        return (int) table.keySet().stream().filter(k -> k / 1024 == side).count();
    }

    int reset() {
        run = first();
        return moves(run).size();
    }

    int steps() {
        return moves(run).size();
    }

    int step(int i, int what) {
        List<Move> all = moves(run);
        if (i < 0 || i >= all.size() || what < 0 || what > 2) return NONE;
        Move m = all.get(i);
        if (what == 0) return m.end;
        if (what == 1) return m.event;
        return m.note == null ? -1 : m.note.from;
    }

    int choose(int i) {
        List<Move> all = moves(run);
        if (i < 0 || i >= all.size()) return NONE;
        All next = run.copy();
        int how = perform(next, moves(next).get(i));
        if (how == 0) run = next;
        return how;
    }

    int end(int c, int what) {
        if (c < 0 || c > processors || what < 0 || what > 2) return NONE;
        if (what == 0) return run.state[c];
        if (what == 1) return run.fresh[c] ? 1 : 0;
        if (c < processors) return run.wants[c];
        int sum = 0;
        for (int p = 0; p < 4; p++) {
            if (run.holder[p]) sum += 1 << p;
        }
        return sum;
    }

    int letter(int i, int what) {
        List<Note> l = ranked(run);
        if (i < 0 || i >= l.size() || what < 0 || what > 4) return NONE;
        Note n = l.get(i);
        return new int[] {n.kind, n.from, n.to, n.whom, n.fresh ? 1 : 0}[what];
    }

    int now(int what) {
        switch (what) {
            case 0: return run.notes.size();
            case 1: return badness(run);
            case 2: return quiet(run) ? 1 : 0;
            case 3: return !quiet(run) && moves(run).isEmpty() ? 1 : 0;
            default: return NONE;
        }
    }

    int walk(int most) {
        if (most < 1 || most > 4000) return NONE;
        spots = new ArrayList<>();
        numbers = new HashMap<>();
        bads = new ArrayList<>();
        stuck = new ArrayList<>();
        lost = new ArrayList<>();
        usedRows = new HashMap<>();
        tried = 0;
        quiets = 0;
        spent = false;
        valid = true;
        discover(first(), null, 0);
        for (int from = 0; from < spots.size(); from++) {
            explore(from, most);
        }
        findLost();
        return spent ? -spots.size() - 1 : spots.size();
    }

    private void explore(int from, int most) {
        Spot spot = spots.get(from);
        int count = moves(spot.all).size();
        if (quiet(spot.all)) quiets++;
        else if (count == 0) stuck.add(from);
        for (int i = 0; i < count; i++) {
            All next = spot.all.copy();
            Move m = moves(next).get(i);
            tried++;
            if (m.row != null) usedRows.put(m.row, true);
            int how = perform(next, m);
            if (how != 0) {
                bads.add(new int[] {how, from, i});
                continue;
            }
            Integer to = numbers.get(text(next));
            if (to == null && spots.size() == most) {
                spent = true;
                continue;
            }
            if (to == null) to = discover(next, spot, i);
            spot.next.add(to);
        }
    }

    private int discover(All all, Spot from, int step) {
        Spot s = new Spot();
        s.all = all;
        if (from != null) {
            s.depth = from.depth + 1;
            s.way.addAll(from.way);
            s.way.add(step);
        }
        int n = spots.size();
        spots.add(s);
        numbers.put(text(all), n);
        if (badness(all) != 0) bads.add(new int[] {badness(all), n, -1});
        return n;
    }

    private void findLost() {
        boolean[] good = new boolean[spots.size()];
        boolean more = true;
        for (int n = 0; n < good.length; n++) {
            good[n] = quiet(spots.get(n).all);
        }
        while (more) {
            more = false;
            for (int n = good.length - 1; n >= 0; n--) {
                if (!good[n] && spots.get(n).next.stream().anyMatch(t -> good[t])) {
                    good[n] = true;
                    more = true;
                }
            }
        }
        for (int n = 0; n < good.length; n++) {
            if (!good[n]) lost.add(n);
        }
    }

    int walked(int what) {
        switch (what) {
            case 0: return spots.size();
            case 1: return tried;
            case 2: return bads.size();
            case 3: return stuck.size();
            case 4: return lost.size();
            case 5: return spots.stream().mapToInt(s -> s.depth).max().orElse(0);
            case 6: return spent ? 1 : 0;
            case 7: return quiets;
            default: return NONE;
        }
    }

    int bad(int i, int what) {
        if (i < 0 || i >= Math.min(200, bads.size()) || what < 0 || what > 2) return NONE;
        return bads.get(i)[what];
    }

    int found(int how, int i) {
        if (how < 0 || how > 1) return NONE;
        List<Integer> l = how == 0 ? stuck : lost;
        return i < 0 || i >= l.size() ? NONE : l.get(i);
    }

    int far(int state) {
        return state < 0 || state >= spots.size() ? NONE : spots.get(state).depth;
    }

    int way(int state, int k) {
        if (state < 0 || state >= spots.size()) return NONE;
        List<Integer> way = spots.get(state).way;
        return k < 0 || k >= way.size() ? NONE : way.get(k);
    }

    int go(int state) {
        if (!valid || state < 0 || state >= spots.size()) return NONE;
        run = spots.get(state).all.copy();
        return moves(run).size();
    }

    int number() {
        if (!valid) return NONE;
        return numbers.getOrDefault(text(run), NONE);
    }

    int used(int where) {
        if (noPlace(where) || !table.containsKey(where / 16)) return NONE;
        return usedRows.containsKey(where / 16) ? 1 : 0;
    }

    private boolean quiet(All a) {
        int sum = 0;
        for (int w : a.wants) sum += w;
        return sum == 0 && a.notes.isEmpty();
    }

    private int badness(All a) {
        for (int p = 0; p < processors; p++) {
            for (int q = 0; q < processors; q++) {
                if (p != q && rights[a.state[p]] == 2 && rights[a.state[q]] > 0) return 4;
            }
        }
        for (int p = 0; p < processors; p++) {
            if (rights[a.state[p]] > 0 && !a.fresh[p]) return 5;
        }
        return 0;
    }

    /** The letters as they are numbered; the list of a state has them as they were sent. */
    private List<Note> ranked(All a) {
        List<Note> l = new ArrayList<>(a.notes);
        l.sort(Comparator.<Note>comparingInt(n -> n.from).thenComparingInt(n -> n.to)
                .thenComparingInt(n -> loose[n.kind] ? 1 : 0)
                .thenComparingInt(n -> loose[n.kind] ? n.kind : 0)
                .thenComparingInt(n -> loose[n.kind] ? n.whom : 0)
                .thenComparingInt(n -> loose[n.kind] && n.fresh ? 1 : 0));
        return l;
    }

    private String text(All a) {
        StringBuilder b = new StringBuilder();
        for (int e = 0; e <= processors; e++) {
            b.append(a.state[e]).append(a.fresh[e] ? 'f' : 's').append(a.wants[e]).append(' ');
        }
        for (boolean h : a.holder) b.append(h ? 'h' : '-');
        for (Note n : ranked(a)) {
            b.append(' ').append(n.kind).append(',').append(n.from).append(',').append(n.to).append(',');
            b.append(n.whom).append(n.fresh ? 'f' : 's');
        }
        return b.toString();
    }

    private boolean waits(int[] acts) {
        for (int act : acts) {
            if (act / 16 == 9) return true;
        }
        return false;
    }

    private List<Move> moves(All a) {
        List<Move> l = new ArrayList<>();
        for (int p = 0; p < processors; p++) {
            if (a.wants[p] != 0) continue;
            for (int event = 0; event < 3; event++) {
                int[] acts = table.get(a.state[p] * 64 + event);
                if (acts != null && !waits(acts)) l.add(move(p, event, null, a.state[p] * 64 + event));
            }
        }
        List<Note> ranked = ranked(a);
        for (int i = 0; i < ranked.size(); i++) {
            Note n = ranked.get(i);
            boolean blocked = false;
            for (int k = 0; k < i; k++) {
                Note o = ranked.get(k);
                blocked |= !loose[n.kind] && !loose[o.kind] && o.from == n.from && o.to == n.to;
            }
            int at = rowFor(a, n);
            int[] acts = table.get(at);
            if (blocked || acts != null && waits(acts)) continue;
            l.add(move(n.to, 3 + n.kind, n, acts == null ? null : Integer.valueOf(at)));
        }
        return l;
    }

    private int rowFor(All a, Note n) {
        if (n.to < processors) return a.state[n.to] * 64 + 3 + n.kind;
        boolean other = false;
        for (int p = 0; p < processors; p++) {
            other |= p != n.whom && a.holder[p];
        }
        return (16 + a.state[n.to]) * 64 + 2 * n.kind + (other ? 1 : 0);
    }

    private Move move(int end, int event, Note note, Integer row) {
        Move m = new Move();
        m.end = end;
        m.event = event;
        m.note = note;
        m.row = row;
        return m;
    }

    private int perform(All a, Move m) {
        if (m.note == null && m.event == 0) a.wants[m.end] = 1;
        if (m.note == null && m.event == 1) a.wants[m.end] = 2;
        if (m.note != null) a.notes.remove(m.note);
        if (m.row == null) return 1;
        Note hand = m.note == null ? new Note(0, 0, 0, m.end, false) : m.note;
        for (int act : table.get(m.row)) {
            int how = m.end == processors ? atHome(a, hand, act / 16, act % 16) : atCache(a, m.end, hand, act);
            if (how != 0) return how;
            if (a.notes.size() > 8) return 3;
        }
        return 0;
    }

    private int atCache(All a, int c, Note hand, int act) {
        int op = act / 16;
        int argument = act % 16;
        if (op == 1) a.state[c] = argument;
        if (op == 2) a.notes.add(new Note(argument, c, processors, c, false));
        if (op == 3) a.notes.add(new Note(argument, c, processors, c, a.fresh[c]));
        if (op == 4) a.notes.add(new Note(argument, c, hand.whom, hand.whom, false));
        if (op == 5) a.notes.add(new Note(argument, c, hand.whom, hand.whom, a.fresh[c]));
        if (op == 6) a.fresh[c] = hand.fresh;
        if (op == 7 || op == 8) a.wants[c] = 0;
        if (op == 7 && !a.fresh[c]) return 2;
        if (op == 8) {
            a.fresh = new boolean[5];
            a.fresh[c] = true;
            hand.fresh = false;
            for (Note n : a.notes) n.fresh = false;
        }
        return 0;
    }

    private int atHome(All a, Note hand, int op, int argument) {
        int h = processors;
        if (op == 1) a.state[h] = argument;
        if (op == 2) a.notes.add(new Note(argument, h, hand.whom, hand.whom, false));
        if (op == 3) a.notes.add(new Note(argument, h, hand.whom, hand.whom, a.fresh[h]));
        if (op == 4) {
            for (int p = 0; p < processors; p++) {
                if (a.holder[p] && p != hand.whom) a.notes.add(new Note(argument, h, p, hand.whom, false));
            }
        }
        if (op == 5) a.holder[hand.whom] = true;
        if (op == 6) a.holder[hand.whom] = false;
        if (op == 7) a.holder = new boolean[4];
        if (op == 8) a.fresh[h] = hand.fresh;
        return 0;
    }
}
