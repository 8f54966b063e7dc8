/** Long runs of calls, the same each time, each answer beside the model's. */
public final class ModelTest {
    private static final int RUNS = 4000;
    private static final int CALLS = 512;
    private static final int[] ODD = {-1, -2, 6, 7, 61, Integer.MAX_VALUE, Integer.MIN_VALUE, -9, 100};

    private long seed;
    private OwnedThings x;
    private Model m;
    private int calls;
    private int run;

    private int below(int n) {
        seed = seed * 6364136223846793005L + 1442695040888963407L;
        return (int) ((seed >>> 33) % n);
    }

    /** Mostly from low to high, now and then far off. */
    private int from(int low, int high) {
        return below(25) == 0 ? ODD[below(ODD.length)] : low + below(high - low + 1);
    }

    private int thing() {
        return from(0, Math.max(0, m.many(0) - 1));
    }

    private int one() {
        return below(5) == 0 ? 6 : thing();
    }

    private void due(String call, long got, long want) {
        calls++;
        Check.due("run " + run + ", call " + calls + ": " + call, got, want);
    }

    private String text() {
        int count = 1 + below(6);
        int references = below(13);
        StringBuilder text = new StringBuilder("o");
        for (int t = 0; t < count; t++) {
            text.append(';').append("pgd".charAt(below(3)));
            int owner = below(t + 1);
            text.append(owner == t ? "w" : "" + owner);
        }
        for (int r = 0; r < references; r++) {
            for (int tries = 0; tries < 20; tries++) {
                int a = below(4) == 0 ? 6 : below(count);
                int b = below(count);
                String told = "," + (a == 6 ? "w" : "" + a) + b;
                if (a != b && text.indexOf(told) < 0) {
                    text.append(told);
                    break;
                }
            }
        }
        if (below(4) == 0) {
            spoil(text);
        }
        return text.toString();
    }

    private void spoil(StringBuilder text) {
        int at = below(text.length());
        switch (below(4)) {
            case 0 -> text.setCharAt(at, "o;,pgdw012345678x".charAt(below(17)));
            case 1 -> text.setLength(at);
            case 2 -> text.append(";pw,w0,01".substring(0, 1 + below(9)));
            default -> text.append(',').append(text.charAt(text.length() - 2)).append(text.charAt(text.length() - 1));
        }
    }

    private void tellText() {
        String text = text();
        int n = Math.min(60, text.length());
        int lane = below(3);
        due("sheet", x.sheet(3, lane, n), m.sheet(3, lane, n));
        for (int i = 0; i < n; i++) {
            due("put", x.put(3, i, text.charAt(i)), m.put(3, i, text.charAt(i)));
        }
        due("things " + text, x.things(3, lane, 0, n), m.things(3, lane, 0, n));
    }

    private void tellDay() {
        int acts = below(4) == 0 ? 1 + below(8) : 1 + below(3);
        due("sheet", x.sheet(2, 2, 3 * acts), m.sheet(2, 2, 3 * acts));
        for (int act = 0; act < acts; act++) {
            int sort = below(40) == 0 ? 3 : below(3);
            int[] three = {sort, sort == 0 ? one() : thing(), sort == 1 ? one() : thing()};
            for (int c = 0; c < 3; c++) {
                due("put", x.put(2, 3 * act + c, three[c]), m.put(2, 3 * act + c, three[c]));
            }
        }
        for (int what : new int[] {0, 1, 2, 3, 4, 10 + below(6)}) {
            due("day " + what, x.day(2, 2, 0, acts, what), m.day(2, 2, 0, acts, what));
        }
        int a = from(0, 2), b = from(0, 2), c = from(0, 3), n = from(0, 4), what = from(0, 15);
        due("day", x.day(a, b, c, n, what), m.day(a, b, c, n, what));
    }

    private void tellLocks() {
        int n = 1 + below(6);
        due("sheet", x.sheet(1, 0, n), m.sheet(1, 0, n));
        for (int i = 0; i < n; i++) {
            int t = thing();
            due("put", x.put(1, i, t), m.put(1, i, t));
        }
        due("locks", x.locks(1, 0, 0, n), m.locks(1, 0, 0, n));
        int k = from(0, 3), lane = from(0, 2), i = from(0, 6), many = from(0, 6);
        due("locks", x.locks(k, lane, i, many), m.locks(k, lane, i, many));
    }

    private void change() {
        int a = one(), b = thing();
        switch (below(5)) {
            case 0, 1 -> due("refer " + a + " " + b, x.refer(a, b), m.refer(a, b));
            case 2 -> due("own " + b + " " + a, x.own(b, a), m.own(b, a));
            case 3 -> due("hand " + a + " " + b, x.hand(a, b), m.hand(a, b));
            default -> due("place " + a + " " + b, x.place(a, b), m.place(a, b));
        }
        due("refers " + a + " " + b, x.refers(a, b), m.refers(a, b));
    }

    private void ask() {
        int t = thing(), k = from(-1, 5), what = from(0, 10);
        due("ofThing " + t + " " + what, x.ofThing(t, what), m.ofThing(t, what));
        due("past " + t + " " + k, x.past(t, k), m.past(t, k));
        due("past " + t, x.past(t, -1), m.past(t, -1));
        due("unlawful", x.unlawful(), m.unlawful());
        int which = from(0, 1), many = from(0, 4);
        due("odds " + which, x.odds(which), m.odds(which));
        due("many " + many, x.many(many), m.many(many));
    }

    private void read() {
        int a = thing(), b = thing(), less = from(0, 1), n = from(0, 3), t = thing();
        if (below(3) == 0) {
            due("back " + n, x.back(n), m.back(n));
        } else {
            due("reading " + a + " " + b, x.reading(a, b, less), m.reading(a, b, less));
        }
        due("kinds " + t, x.kinds(t), m.kinds(t));
        due("owners " + t, x.owners(t), m.owners(t));
    }

    private void handleSheets() {
        int k = from(0, 3), other = from(0, 3), i = from(0, 8), j = from(0, 8), n = from(-1, 8), lane = from(0, 2);
        switch (below(6)) {
            case 0 -> due("sheet", x.sheet(k, lane, n), m.sheet(k, lane, n));
            case 1 -> due("lose", x.lose(k), m.lose(k));
            case 2 -> due("put", x.put(k, i, n * 12345), m.put(k, i, n * 12345));
            case 3 -> due("copy", x.copy(k, i, other, j, n), m.copy(k, i, other, j, n));
            case 4 -> due("things", x.things(k, lane, i, n), m.things(k, lane, i, n));
            default -> due("cell", x.cell(k, i, lane), m.cell(k, i, lane));
        }
        due("cell", x.cell(k, j, lane), m.cell(k, j, lane));
    }

    private void parts() {
        int t = thing(), kind = from(0, 2);
        due("tell " + t, x.tell(t), m.tell(t));
        due("hail " + t, x.hail(t), m.hail(t));
        due("as " + t + " " + kind, x.as(t, kind), m.as(t, kind));
        due("trace", x.trace(), m.trace);
    }

    private void step() {
        switch (below(12)) {
            case 0, 1, 2, 3 -> change();
            case 4, 5, 6 -> ask();
            case 7 -> read();
            case 8 -> handleSheets();
            case 9 -> parts();
            case 10 -> tellLocks();
            default -> tellDay();
        }
        due("fault", x.fault(), m.fault);
    }

    private void runOne(int number) {
        run = number;
        seed = number;
        x = new OwnedThings();
        m = new Model();
        calls = 0;
        if (below(10) == 0) {
            step();
        }
        while (calls < CALLS - 80) {
            if (calls == 0 || below(25) == 0) {
                tellText();
            }
            step();
        }
    }

    public static void main(String[] args) {
        Check.test("long runs of calls beside the model");
        ModelTest test = new ModelTest();
        for (int number = 1; number <= RUNS; number++) {
            test.runOne(number);
        }
        Check.finish();
    }
}
