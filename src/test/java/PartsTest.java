/** Promises 23 to 28: tellings, kinds, trace, faults, counts. */
public final class PartsTest {
    private static int trace(int start, int... bodies) {
        int trace = start;
        for (int body : bodies) {
            trace = 31 * trace + body;
        }
        return trace;
    }

    private static void tellings() {
        OwnedThings x = Check.with("o;pw;g0;d1");
        Check.due("tell(0)", x.tell(0), 1);
        Check.due("trace of plain", x.trace(), 1);
        Check.due("tell(1)", x.tell(1), 102);
        Check.due("trace of guarded", x.trace(), trace(1, 2, 1));
        Check.due("tell(2)", x.tell(2), 106);
        Check.due("trace of double", x.trace(), trace(1, 2, 1, 3, 2, 1, 1));
        int before = x.trace();
        Check.due("no such thing", x.tell(3), Check.UNKNOWN);
        Check.due("no such thing", x.tell(-1), Check.UNKNOWN);
        Check.due("the world", x.tell(6), Check.UNKNOWN);
        Check.due("refused leave nothing", x.trace(), before);
        x.own(2, 6);
        Check.due("tell(2) at level 1", x.tell(2), 102);
    }

    private static void hailed() {
        OwnedThings x = Check.with("o;pw;g0;d1;dw;gw;p4");
        int[] due = {0, 1, 60, 60, 4, 5};
        int trace = 0;
        for (int t = 0; t < 6; t++) {
            Check.due("hail(" + t + ")", x.hail(t), due[t]);
            trace = trace(trace, due[t] == 60 ? 5 : 4);
            Check.due("trace", x.trace(), trace);
        }
        Check.due("the world", x.hail(6), Check.UNKNOWN);
        Check.due("no such thing", x.hail(-1), Check.UNKNOWN);
        Check.due("refused leave nothing", x.trace(), trace);
        for (int k = 0; k < 50; k++) {
            x.hail(2);
            trace = trace(trace, 5);
        }
        Check.due("trace wraps", x.trace(), trace);
    }

    private static void kinds() {
        OwnedThings x = Check.with("o;pw;g0;d1");
        for (int t = 0; t < 3; t++) {
            for (int kind = 0; kind < 3; kind++) {
                boolean well = kind <= t;
                Check.due("as(" + t + ", " + kind + ")", x.as(t, kind), well ? 1 : Check.CAST);
                Check.due("fault", x.fault(), well ? 0 : 2);
            }
        }
        x.as(0, 1);
        Check.due("no such thing", x.as(3, 3), Check.UNKNOWN);
        Check.due("refused", x.fault(), 0);
        x.as(0, 1);
        Check.due("no such kind", x.as(0, 3), Check.OUTSIDE);
        Check.due("refused", x.fault(), 0);
        Check.due("no such kind", x.as(0, -1), Check.OUTSIDE);
    }

    private static void faultStays() {
        OwnedThings x = Check.with(Check.SIX);
        x.as(0, 2);
        x.many(9);
        x.ofThing(9, 9);
        x.refers(0, 1);
        x.place(0, 1);
        x.refer(0, 9);
        x.refer(0, 1);
        x.own(0, 6);
        x.hand(0, 9);
        x.unlawful();
        x.past(0, 9);
        x.reading(0, 0, 0);
        x.back(9);
        x.kinds(0);
        x.owners(0);
        x.odds(0);
        x.lose(9);
        x.lose(0);
        x.tell(0);
        x.hail(9);
        x.trace();
        Check.due("calls that name no fault", x.fault(), 2);
        Check.due("fault() itself", x.fault(), 2);
        x.things(9, 0, 0, 0);
        Check.due("things", x.fault(), 0);
        x.as(0, 2);
        x.day(9, 0, 0, 0, 0);
        Check.due("day", x.fault(), 0);
        x.as(0, 2);
        x.locks(9, 0, 0, 0);
        Check.due("locks", x.fault(), 0);
        x.as(0, 2);
        x.sheet(9, 0, 0);
        Check.due("sheet", x.fault(), 0);
        x.as(0, 2);
        x.put(9, 0, 0);
        Check.due("put", x.fault(), 0);
        x.as(0, 2);
        x.cell(9, 0, 0);
        Check.due("cell", x.fault(), 0);
        x.as(0, 2);
        x.copy(9, 0, 0, 0, 0);
        Check.due("copy", x.fault(), 0);
    }

    private static void counts() {
        OwnedThings x = Check.with(Check.SIX);
        x.reading(0, 1, 0);
        x.reading(0, 1, 0);
        Check.due("many(0)", x.many(0), 6);
        Check.due("many(1)", x.many(1), 8);
        Check.due("many(2)", x.many(2), 6);
        Check.due("many(3)", x.many(3), 1);
        Check.due("many(4)", x.many(4), 2);
        Check.due("many(-1)", x.many(-1), Check.OUTSIDE);
        Check.due("many(5)", x.many(5), Check.OUTSIDE);
        x.refer(6, 0);
        Check.due("many(2) then", x.many(2), 3);
        Check.due("many(3) then", x.many(3), 1);
        x.refer(6, 4);
        Check.due("many(2) of none", x.many(2), 0);
        Check.due("many(3) of none", x.many(3), 0);
    }

    public static void main(String[] args) {
        tellings();
        hailed();
        kinds();
        faultStays();
        counts();
        Check.finish();
    }
}
