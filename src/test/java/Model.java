import java.util.ArrayList;
import java.util.Arrays;
import java.util.List;

/**
 * What the document says, in another way than the class: things are looked at by listing
 * every way that comes to nobody twice, a text by its grammar alone. Slow, plain, for tests.
 */
final class Model {
    private static final int W = 6;

    List<int[]> made = new ArrayList<>(); // kind, owner
    List<int[]> refs = new ArrayList<>(); // from, to
    List<int[]> told = new ArrayList<>(); // a, b, less
    final long[][] rows = new long[4][];
    final int[] lanes = new int[4];
    int trace = 0;
    int fault = 0;

    Model likeThis() {
        Model m = new Model();
        for (int[] t : made) m.made.add(t.clone());
        for (int[] r : refs) m.refs.add(r.clone());
        m.told = told;
        return m;
    }

    boolean thing(int t) { return 0 <= t && t < made.size(); }
    boolean one(int a) { return thing(a) || (a == W && !made.isEmpty()); }
    private static boolean in(int v, int low, int high) { return low <= v && v <= high; }
    private int fail(int f) { fault = f; return -10 - f; }

    private int rowFault(int k, int lane, int i, int n, boolean sized) {
        if (rows[k] == null) return 1;
        if (lanes[k] != lane) return 2;
        if (sized && n < 0) return 4;
        long end = (long) i + n;
        return i < 0 || n < 0 || end > rows[k].length ? 3 : 0;
    }

    // ---- 1

    int things(int k, int lane, int i, int n) {
        fault = 0;
        if (!in(k, 0, 3)) return -1;
        if (!in(lane, 0, 2)) return -2;
        int f = rowFault(k, lane, i, n, true);
        if (f != 0) return fail(f);
        long[] text = Arrays.copyOfRange(rows[k], i, i + n);
        List<int[]> things = new ArrayList<>(), references = new ArrayList<>();
        int first = firstFault(text, things, references);
        if (first >= 0) return -100 - first;
        made = things;
        refs = references;
        told = new ArrayList<>();
        return made.size();
    }

    private static int whose(long code, int count) {
        if (code == 'w') return W;
        return code >= '0' && code < '0' + count ? (int) (code - '0') : -1;
    }

    /** State 0 at the begin, 1 2 3 inside a thing, 4 behind one, 5 6 in a reference, 7 behind one. */
    private static int firstFault(long[] text, List<int[]> things, List<int[]> references) {
        int state = 0, a = 0;
        for (int p = 0; p < text.length; p++) {
            long c = text[p];
            boolean semicolon = c == ';' && things.size() < 6;
            boolean comma = c == ',' && references.size() < 12;
            switch (state) {
                case 0 -> { if (c != 'o') return p; state = 1; }
                case 1 -> { if (c != ';') return p; state = 2; }
                case 2 -> {
                    a = c == 'p' ? 0 : c == 'g' ? 1 : c == 'd' ? 2 : -1;
                    if (a < 0) return p;
                    state = 3;
                }
                case 3 -> {
                    int owner = whose(c, things.size());
                    if (owner < 0) return p;
                    things.add(new int[] {a, owner});
                    state = 4;
                }
                case 4 -> { if (!semicolon && !comma) return p; state = semicolon ? 2 : 5; }
                case 5 -> { a = whose(c, things.size()); if (a < 0) return p; state = 6; }
                case 6 -> {
                    int b = c == 'w' ? -1 : whose(c, things.size());
                    if (b < 0 || b == a) return p;
                    for (int[] r : references) if (r[0] == a && r[1] == b) return p;
                    references.add(new int[] {a, b});
                    state = 7;
                }
                default -> { if (!comma) return p; state = 5; }
            }
        }
        return state == 4 || state == 7 ? -1 : text.length;
    }

    int level(int t) { return t == W ? 0 : 1 + level(made.get(t)[1]); }

    int lock(int t) {
        int kind = made.get(t)[0];
        return kind == 0 ? level(t) : kind == 1 ? level(t) + 1 : 2 * level(t);
    }

    boolean under(int t, int upper) {
        if (t == W) return false;
        int owner = made.get(t)[1];
        return owner == upper || under(owner, upper);
    }

    /** Each way from the world to t that comes to nobody twice, as its things in order. */
    List<List<Integer>> ways(int t) {
        List<List<Integer>> all = new ArrayList<>();
        walk(W, t, new ArrayList<>(), all);
        return all;
    }

    private void walk(int at, int t, List<Integer> stops, List<List<Integer>> all) {
        if (at == t) {
            all.add(new ArrayList<>(stops));
            return;
        }
        for (int next = 0; next < made.size(); next++) {
            if (!stops.contains(next) && at(at, next) >= 0) {
                stops.add(next);
                walk(next, t, stops, all);
                stops.remove(stops.size() - 1);
            }
        }
    }

    int at(int a, int b) {
        for (int r = 0; r < refs.size(); r++) if (refs.get(r)[0] == a && refs.get(r)[1] == b) return r;
        return -9;
    }

    int before(int t) {
        List<List<Integer>> ways = ways(t);
        if (ways.isEmpty()) return 0;
        int set = 127;
        for (List<Integer> way : ways) {
            int on = 1 << W;
            for (int stop : way) on |= 1 << stop;
            set &= on;
        }
        return set;
    }

    boolean lawful(int t) { return before(t) == 0 || (before(t) >> made.get(t)[1] & 1) == 1; }

    int tail(int t) {
        int set = 1 << t;
        for (boolean more = true; more;) {
            more = false;
            for (int[] r : refs) {
                if (r[0] != W && (set >> r[0] & 1) == 1 && (set >> r[1] & 1) == 0) {
                    set |= 1 << r[1];
                    more = true;
                }
            }
        }
        return set;
    }

    int nearest(int t) {
        int best = W, most = -1;
        for (int x = 0; x < made.size(); x++) {
            if (x != t && (before(t) >> x & 1) == 1 && Integer.bitCount(before(x)) > most) {
                most = Integer.bitCount(before(x));
                best = x;
            }
        }
        return best;
    }

    boolean closed(int t) {
        int tail = tail(t);
        for (int[] r : refs) {
            boolean outside = r[0] == W || (tail >> r[0] & 1) == 0;
            if (outside && (tail >> r[1] & 1) == 1 && r[1] != t) return false;
        }
        return true;
    }

    int ofThing(int t, int what) {
        if (!thing(t)) return -1;
        int targets = 0;
        for (int[] r : refs) if (r[0] == t) targets |= 1 << r[1];
        return switch (what) {
            case 0 -> made.get(t)[0];
            case 1 -> made.get(t)[1];
            case 2 -> level(t);
            case 3 -> lock(t);
            case 4 -> targets;
            case 5 -> ways(t).isEmpty() ? 0 : 1;
            case 6 -> before(t);
            case 7 -> lawful(t) ? 1 : 0;
            case 8 -> nearest(t);
            case 9 -> tail(t);
            case 10 -> closed(t) ? 1 : 0;
            default -> -2;
        };
    }

    int refers(int a, int b) { return !one(a) || !thing(b) ? -1 : at(a, b) >= 0 ? 1 : 0; }
    int place(int a, int b) { return !one(a) || !thing(b) ? -1 : at(a, b); }

    // ---- 2

    int refer(int a, int b) {
        if (!one(a) || !thing(b) || a == b) return -1;
        if (at(a, b) >= 0) refs.remove(at(a, b));
        else if (refs.size() == 12) return -4;
        else refs.add(new int[] {a, b});
        return refs.size();
    }

    int own(int t, int owner) {
        if (!thing(t) || !one(owner) || t == owner) return -1;
        if (under(owner, t)) return -3;
        int was = made.get(t)[1];
        made.get(t)[1] = owner;
        return was;
    }

    int hand(int t, int to) {
        if (!thing(t) || !thing(to) || t == to) return -1;
        List<int[]> here = new ArrayList<>();
        for (int[] r : refs) if (r[1] == t) here.add(r);
        if (under(to, t) || here.size() != 1 || at(to, t) >= 0) return -3;
        int was = here.get(0)[0];
        here.get(0)[0] = to;
        made.get(t)[1] = to;
        return was;
    }

    int day(int k, int lane, int i, int n, int what) {
        fault = 0;
        if (!in(k, 0, 3)) return -1;
        if (!in(lane, 0, 2) || !in(n, 0, 20) || !(in(what, 0, 4) || in(what, 10, 15))) return -2;
        int f = rowFault(k, lane, i, 3 * n, false);
        if (f != 0) return fail(f);
        if (made.isEmpty()) return -3;
        for (int act = 0; act < n; act++) if (!in((int) rows[k][i + 3 * act], 0, 2)) return -2;
        Model then = likeThis();
        for (int act = 0; act < n; act++) {
            int a = (int) rows[k][i + 3 * act + 1], b = (int) rows[k][i + 3 * act + 2];
            int sort = (int) rows[k][i + 3 * act];
            int got = sort == 0 ? then.refer(a, b) : sort == 1 ? then.own(a, b) : then.hand(a, b);
            if (got < 0) return what == 1 ? act : -100 - act;
        }
        return switch (what) {
            case 0 -> then.refs.size();
            case 1 -> -9;
            case 2 -> then.unlawful();
            case 3 -> then.reached();
            case 4 -> {
                int most = 0;
                for (int t = 0; t < made.size(); t++) most = Math.max(most, then.lock(t));
                yield most;
            }
            default -> thing(what - 10) ? then.made.get(what - 10)[1] : -9;
        };
    }

    int reached() {
        int set = 0;
        for (int t = 0; t < made.size(); t++) if (!ways(t).isEmpty()) set |= 1 << t;
        return set;
    }

    // ---- 3

    int unlawful() {
        if (made.isEmpty()) return -3;
        int set = 0;
        for (int t = 0; t < made.size(); t++) if (!lawful(t)) set |= 1 << t;
        return set;
    }

    int past(int t, int k) {
        if (!thing(t)) return -1;
        if (!in(k, -1, 5)) return -2;
        int owner = made.get(t)[1];
        List<Integer> best = null;
        if (owner != W) {
            // The ways come ordered by the numbers of their stops, so the first of a length wins.
            for (List<Integer> way : ways(t)) {
                if (!way.contains(owner) && (best == null || way.size() < best.size())) best = way;
            }
        }
        if (best == null) return -9;
        return k == -1 ? best.size() : k < best.size() ? best.get(k) : -9;
    }

    int locks(int k, int lane, int i, int n) {
        fault = 0;
        if (!in(k, 0, 3)) return -1;
        if (!in(lane, 0, 2) || !in(n, 0, 20)) return -2;
        int f = rowFault(k, lane, i, n, false);
        if (f != 0) return fail(f);
        if (made.isEmpty()) return -3;
        for (int j = 0; j < n; j++) if (!thing((int) rows[k][i + j])) return -1;
        int many = Math.min(n, 1);
        while (many > 0 && many < n && lock((int) rows[k][i + many]) > lock((int) rows[k][i + many - 1])) many++;
        return many;
    }

    // ---- 4

    int reading(int a, int b, int less) {
        if (!thing(a) || !thing(b) || a == b) return -1;
        if (!in(less, 0, 1)) return -2;
        if (told.size() == 8) return -4;
        told.add(new int[] {a, b, less});
        return told.size() - 1;
    }

    int back(int n) {
        if (!in(n, 0, told.size())) return -2;
        for (int k = 0; k < n; k++) told.remove(told.size() - 1);
        return told.size();
    }

    private boolean so() {
        for (int[] r : told) if ((lock(r[0]) < lock(r[1])) != (r[2] == 1)) return false;
        return true;
    }

    int kinds(int t) {
        if (!thing(t)) return -1;
        int set = 0;
        for (int kind = 0; kind < 3; kind++) {
            Model m = likeThis();
            m.made.get(t)[0] = kind;
            if (m.so()) set |= 1 << kind;
        }
        return set;
    }

    int owners(int t) {
        if (!thing(t)) return -1;
        int set = 0;
        for (int owner = 0; owner <= W; owner++) {
            if (!one(owner) || owner == t || under(owner, t)) continue;
            Model m = likeThis();
            m.made.get(t)[1] = owner;
            if (m.so()) set |= 1 << owner;
        }
        return set;
    }

    long odds(int which) {
        if (!in(which, 0, 1) || refs.isEmpty()) return Long.MIN_VALUE;
        long upper = 0, lower = refs.size();
        for (int r = 0; r < lower; r++) {
            Model m = likeThis();
            m.refs.remove(r);
            if (m.unlawful() == 0) upper++;
        }
        long d = lower;
        while (upper % d != 0 || lower % d != 0) d--;
        return (which == 0 ? upper : lower) / d;
    }

    // ---- 5

    int sheet(int k, int lane, int n) {
        fault = 0;
        if (!in(k, 0, 3)) return -1;
        if (!in(lane, 0, 2) || n > 60) return -2;
        if (n < 0) return fail(4);
        rows[k] = new long[n];
        lanes[k] = lane;
        return 1;
    }

    int lose(int k) {
        if (!in(k, 0, 3)) return -1;
        int had = rows[k] == null ? 0 : 1;
        rows[k] = null;
        return had;
    }

    int put(int k, int i, int v) {
        fault = 0;
        if (!in(k, 0, 3)) return -1;
        if (rows[k] == null) return fail(1);
        if (!in(i, 0, rows[k].length - 1)) return fail(3);
        rows[k][i] = lanes[k] == 0 ? (byte) v : lanes[k] == 1 ? (short) v : v;
        return 1;
    }

    long cell(int k, int i, int lane) {
        fault = 0;
        if (!in(k, 0, 3) || !in(lane, 0, 2)) return Long.MIN_VALUE;
        fault = rowFault(k, lane, i, 1, false);
        return fault != 0 ? Long.MIN_VALUE : rows[k][i];
    }

    int copy(int k, int i, int other, int j, int n) {
        fault = 0;
        if (!in(k, 0, 3) || !in(other, 0, 3)) return -1;
        if (rows[k] == null || rows[other] == null) return fail(1);
        if (lanes[k] != lanes[other]) return fail(2);
        if (rowFault(k, lanes[k], i, n, false) != 0 || rowFault(other, lanes[k], j, n, false) != 0) return fail(3);
        long[] asTheyWere = rows[k].clone();
        for (int c = 0; c < n; c++) rows[other][j + c] = asTheyWere[i + c];
        return n;
    }

    private void leave(int... bodies) { for (int b : bodies) trace = trace * 31 + b; }

    int tell(int t) {
        if (!thing(t)) return -1;
        switch (made.get(t)[0]) {
            case 0 -> { leave(1); return level(t); }
            case 1 -> { leave(2, 1); return level(t) + 100; }
            default -> { leave(3, 2, 1, 1); return 2 * level(t) + 100; }
        }
    }

    int hail(int t) {
        if (!thing(t)) return -1;
        leave(made.get(t)[0] == 2 ? 5 : 4);
        return made.get(t)[0] == 2 ? 60 : t;
    }

    int as(int t, int kind) {
        fault = 0;
        if (!thing(t)) return -1;
        if (!in(kind, 0, 2)) return -2;
        return made.get(t)[0] < kind ? fail(2) : 1;
    }

    int many(int what) {
        return switch (what) {
            case 0 -> made.size();
            case 1 -> refs.size();
            case 2 -> Integer.bitCount(reached());
            case 3 -> made.isEmpty() ? 0 : Integer.bitCount(unlawful());
            case 4 -> told.size();
            default -> -2;
        };
    }
}
