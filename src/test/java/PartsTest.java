/** Promises 23 to 28: tellings, kinds, trace, faults, counts. */
public final class PartsTest {
    private static final String THREE = "o;pw;g0;d1";
    private static final String CHAIN = "o;pw;p0;p1;p2;p3;p4";

    private static int trace(int start, int... bodies) {
        int trace = start;
        for (int body : bodies) {
            trace = 31 * trace + body;
        }
        return trace;
    }

    private static void tell(String why, String text, int t, int want, int trace) {
        Check.test("23 tell: " + why);
        OwnedThings x = Check.with(text);
        Check.due("tell", x.tell(t), want);
        Check.due("trace", x.trace(), trace);
    }

    private static void tellings() {
        tell("PLAIN: LEVEL 1", THREE, 0, 1, 1);
        tell("PLAIN: LEVEL 6", CHAIN, 5, 6, 1);
        tell("GUARDED: what PLAIN's gives, and 100", THREE, 1, 102, 2 * 31 + 1);
        tell("GUARDED: LEVEL 6", CHAIN.replace('p', 'g'), 5, 106, 2 * 31 + 1);
        tell("DOUBLE: GUARDED's and PLAIN's", THREE, 2, 106, 3 * 29791 + 2 * 961 + 31 + 1);
        tell("DOUBLE: LEVEL 1", "o;dw", 0, 102, 3 * 29791 + 2 * 961 + 31 + 1);
        tell("DOUBLE: LEVEL 6", CHAIN.replace('p', 'd'), 5, 112, 3 * 29791 + 2 * 961 + 31 + 1);
        Check.test("23 tell: of what is owned anew");
        OwnedThings x = Check.with(THREE);
        x.own(2, 6);
        Check.due("level 1", x.tell(2), 102);
        for (int t : new int[] {-1, 6, 7, Check.LEAST, Check.MOST}) {
            Check.refused("23 tell: UNKNOWN: thing " + t, Check.UNKNOWN, y -> y.tell(t));
            Check.refused("24 hail: UNKNOWN: thing " + t, Check.UNKNOWN, y -> y.hail(t));
        }
        Check.keeps("23 tell: UNKNOWN: the first that is none", Check.with(THREE), Check.UNKNOWN, Check.KEPT, y -> y.tell(3));
        Check.keeps("24 hail: UNKNOWN: the first that is none", Check.with(THREE), Check.UNKNOWN, Check.KEPT, y -> y.hail(3));
    }

    private static void hail(String why, String text, int t, int want, int body) {
        Check.test("24 hail: " + why);
        OwnedThings x = Check.with(text);
        Check.due("hail", x.hail(t), want);
        Check.due("trace", x.trace(), body);
    }

    private static void hailed() {
        hail("a PLAIN one by a lent body: its number", THREE, 0, 0, 4);
        hail("a GUARDED one by a lent body: its number", THREE, 1, 1, 4);
        hail("DOUBLE ones have their own: 60", THREE, 2, 60, 5);
        hail("the sixth, a PLAIN one", CHAIN, 5, 5, 4);
        hail("the sixth, a GUARDED one", CHAIN.replace('p', 'g'), 5, 5, 4);
        hail("the sixth, a DOUBLE one", CHAIN.replace('p', 'd'), 5, 60, 5);
    }

    private static void as(String text, int t, int kind) {
        Check.keeps("25 as: " + text + ", kind " + kind, Check.with(text), 1, 0, x -> x.as(t, kind));
    }

    private static void asNone(String text, int t, int kind) {
        Check.keeps("25 as: CAST: " + text + ", kind " + kind, Check.with(text), Check.CAST, 2, x -> x.as(t, kind));
    }

    private static void kinds() {
        as("o;pw", 0, 0);
        asNone("o;pw", 0, 1);
        asNone("o;pw", 0, 2);
        as("o;gw", 0, 0);
        as("o;gw", 0, 1);
        asNone("o;gw", 0, 2);
        as("o;dw", 0, 0);
        as("o;dw", 0, 1);
        as("o;dw", 0, 2);
        for (int t : new int[] {-1, 6, 7, Check.LEAST, Check.MOST}) {
            Check.refusedFaultless("25 as: UNKNOWN: thing " + t, Check.UNKNOWN, x -> x.as(t, 0));
        }
        for (int kind : new int[] {-1, 3, Check.LEAST, Check.MOST}) {
            Check.refusedFaultless("25 as: OUTSIDE: kind " + kind, Check.OUTSIDE, x -> x.as(0, kind));
            Check.refusedFaultless("25 as: OUTSIDE of a DOUBLE one: kind " + kind, Check.OUTSIDE, x -> x.as(2, kind));
        }
        Check.refusedFaultless("25 as: UNKNOWN ahead of OUTSIDE", Check.UNKNOWN, x -> x.as(6, 3));
    }

    private static void traces() {
        Check.test("26 trace: 31 times it and the number");
        OwnedThings x = Check.with(THREE);
        x.hail(0);
        x.tell(0);
        x.hail(2);
        Check.due("4, 1, 5", x.trace(), 4 * 961 + 31 + 5);
        Check.test("26 trace: wraps");
        OwnedThings y = Check.with(THREE);
        for (int k = 0; k < 7; k++) {
            y.hail(0);
        }
        // 4 times 31 to the sixth and so on, less 2 to the 32nd as often as it goes in.
        Check.due("seven lent bodies", y.trace(), (int) (4L * (887503681L + 28629151 + 923521 + 29791 + 961 + 31 + 1)));
        Check.test("26 trace: wraps again and again");
        int trace = y.trace();
        for (int k = 0; k < 200; k++) {
            y.hail(2);
            trace = trace(trace, 5);
            Check.due("call " + k, y.trace(), trace);
        }
        Check.keeps("26 trace: changes nothing", Check.full(), 3 * 29791 + 2 * 961 + 31 + 1, Check.KEPT, OwnedThings::trace);
    }

    /** A call that names no faults leaves fault() as it was, also where it is refused. */
    private static void namesNone(String call, Check.Call made) {
        Check.test("27 fault: " + call + " names none");
        OwnedThings x = Check.full();
        x.as(0, 2);
        made.of(x);
        Check.due("fault()", x.fault(), 2);
    }

    /** A call that names faults sets fault() to 0, if it comes to none, or is refused. */
    private static void namesOne(String call, long want, Check.Call made) {
        Check.test("27 fault: 0: " + call);
        OwnedThings x = Check.full();
        x.as(0, 2);
        Check.due("the call", made.of(x), want);
        Check.due("fault()", x.fault(), 0);
    }

    private static void faultStays() {
        namesNone("ofThing", x -> x.ofThing(0, 0));
        namesNone("refers", x -> x.refers(6, 0));
        namesNone("place", x -> x.place(6, 0));
        namesNone("refer", x -> x.refer(6, 3));
        namesNone("own", x -> x.own(0, 4));
        namesNone("hand", x -> x.hand(2, 4));
        namesNone("unlawful", OwnedThings::unlawful);
        namesNone("past", x -> x.past(3, 0));
        namesNone("reading", x -> x.reading(0, 1, 0));
        namesNone("back", x -> x.back(1));
        namesNone("kinds", x -> x.kinds(0));
        namesNone("owners", x -> x.owners(0));
        namesNone("odds", x -> x.odds(0));
        namesNone("lose", x -> x.lose(0));
        namesNone("tell", x -> x.tell(0));
        namesNone("hail", x -> x.hail(0));
        namesNone("trace", OwnedThings::trace);
        namesNone("fault", OwnedThings::fault);
        namesNone("many", x -> x.many(0));
    }

    private static void faultGoes() {
        namesOne("a text that is not taken", -100, x -> x.things(0, 0, 0, 1));
        namesOne("things is refused", Check.UNKNOWN, x -> x.things(4, 0, 0, 0));
        namesOne("day comes to none", 8, x -> x.day(2, 2, 0, 0, 0));
        namesOne("day is refused", Check.OUTSIDE, x -> x.day(2, 2, 0, 21, 0));
        namesOne("a day with a FIRST WRONG", -101, x -> {
            Check.row(x, 2, 0, 6, 3, 0, 6, 6);
            x.as(0, 2);
            return x.day(2, 2, 0, 2, 0);
        });
        namesOne("locks comes to none", 3, x -> x.locks(2, 2, 0, 3));
        namesOne("locks is refused", Check.UNKNOWN, x -> x.locks(2, 2, 0, 6));
        namesOne("sheet comes to none", 1, x -> x.sheet(0, 0, 1));
        namesOne("sheet is refused", Check.OUTSIDE, x -> x.sheet(0, 0, 61));
        namesOne("put comes to none", 1, x -> x.put(0, 0, 1));
        namesOne("put is refused", Check.UNKNOWN, x -> x.put(4, 0, 1));
        namesOne("cell comes to none", 7, x -> x.cell(0, 0, 0));
        namesOne("cell is refused", Check.LOST, x -> x.cell(0, 0, 3));
        namesOne("copy comes to none", 1, x -> x.copy(0, 0, 0, 1, 1));
        namesOne("copy is refused", Check.UNKNOWN, x -> x.copy(0, 0, 4, 0, 1));
        namesOne("as comes to none", 1, x -> x.as(0, 0));
        namesOne("as is refused", Check.OUTSIDE, x -> x.as(0, 3));
        Check.test("27 fault: of the latest of several");
        OwnedThings x = Check.full();
        x.things(3, 0, 0, 0);
        Check.due("NULL", x.fault(), 1);
        x.things(0, 1, 0, 0);
        Check.due("CAST", x.fault(), 2);
        x.put(0, 4, 0);
        Check.due("INDEX", x.fault(), 3);
        x.sheet(0, 0, -1);
        Check.due("SIZE", x.fault(), 4);
        Check.due("told again", x.fault(), 4);
    }

    private static void many(String why, OwnedThings x, int... due) {
        for (int number = 0; number < due.length; number++) {
            int what = number;
            Check.answers("28 many(" + what + "): " + why, x, due[what], y -> y.many(what));
        }
    }

    private static void counts() {
        many("of everything something", Check.full(), 6, 8, 6, 1, 2);
        many("without THINGS", new OwnedThings(), 0, 0, 0, 0, 0);
        many("one THING", Check.with("o;pw"), 1, 0, 0, 0, 0);
        many("twelve REFERENCES, none REACHED", Check.with(Check.TWELVE), 4, 12, 0, 0, 0);
        many("five not LAWFUL", Check.with("o;pw;p0;p0;p0;p0;p0,w1,w2,w3,w4,w5"), 6, 5, 5, 5, 0);
        OwnedThings cut = Check.full();
        cut.refer(6, 0);
        cut.reading(0, 1, 0);
        many("a REFERENCE cut, a READING more", cut, 6, 7, 3, 1, 3);
        OwnedThings back = Check.full();
        back.refer(6, 0);
        back.refer(6, 4);
        back.back(2);
        many("none REACHED, no READINGS", back, 6, 6, 0, 0, 0);
        OwnedThings anew = Check.full();
        Check.tellText(anew, "o;pw;p0,w1");
        many("another text", anew, 2, 1, 1, 1, 0);
        OwnedThings eight = Check.with("o;pw;p0");
        for (int k = 0; k < 9; k++) {
            eight.reading(0, 1, 1);
        }
        many("eight READINGS", eight, 2, 0, 0, 0, 8);
        for (int what : new int[] {-1, 5, Check.LEAST, Check.MOST}) {
            Check.refused("28 many: OUTSIDE: " + what, Check.OUTSIDE, x -> x.many(what));
            Check.answers("28 many: OUTSIDE without THINGS: " + what, new OwnedThings(), Check.OUTSIDE, x -> x.many(what));
        }
        for (int what = 0; what <= 4; what++) {
            int asked = what;
            Check.keeps("28 many: changes nothing, what " + what, Check.full(), Check.full().many(what), Check.KEPT, x -> x.many(asked));
        }
    }

    public static void main(String[] args) {
        tellings();
        hailed();
        kinds();
        traces();
        faultStays();
        faultGoes();
        counts();
        Check.finish();
    }
}
