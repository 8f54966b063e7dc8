/** Promises 10 to 12: who is not lawful, ways past the owner, locks in order. */
public final class WaysTest {
    private static void unlawful(String why, String text, int... members) {
        Check.answers("10 unlawful: " + why, Check.with(text), Check.set(members), OwnedThings::unlawful);
    }

    private static void notLawful() {
        unlawful("none", "o;pw;p0,w0,01");
        unlawful("one", Check.SIX, 3);
        unlawful("none, if THE WORLD OWNS all", "o;pw;pw,w0,w1,10");
        unlawful("none without references", "o;pw;p0;p1");
        unlawful("none, if none is REACHED", "o;pw;p0;p0,01,12,21");
        unlawful("the last of six", "o;pw;pw;pw;pw;pw;p0,w5", 5);
        unlawful("five of six", "o;pw;p0;p0;p0;p0;p0,w1,w2,w3,w4,w5", 1, 2, 3, 4, 5);
        Check.keeps("10 unlawful: STATE: there are no THINGS", new OwnedThings(), Check.STATE, Check.KEPT, OwnedThings::unlawful);
        Check.keeps("10 unlawful: changes nothing", Check.full(), 8, Check.KEPT, OwnedThings::unlawful);
        Check.test("11 past: to the first thing, owned anew");
        OwnedThings first = Check.with("o;pw;pw;pw,w2,21,10");
        first.own(0, 2);
        Check.due("its owner is on the way", first.past(0, -1), Check.NONE);
        first.refer(6, 1);
        Check.due("how many", first.past(0, -1), 2);
        Check.due("the last of it", first.past(0, 1), 0);
        Check.test("10 unlawful: of what is owned anew");
        OwnedThings x = Check.with(Check.SIX);
        x.own(3, 1);
        x.refer(6, 1);
        Check.due("1 and 3", x.unlawful(), Check.set(1, 3));
        x.own(0, 4);
        Check.due("the first, too", x.unlawful(), Check.set(0, 1, 3));
        x.refer(6, 0);
        Check.due("0 is not reached", x.unlawful(), Check.set(1, 3));
        x.refer(1, 0);
        Check.due("0 is reached", x.unlawful(), Check.set(0, 1, 3));
    }

    /** The way past, each of its things, and NONE from its end on. */
    private static void past(String why, String text, int t, int... stops) {
        int length = stops.length == 0 ? Check.NONE : stops.length;
        Check.answers("11 past: how many: " + why, Check.with(text), length, x -> x.past(t, -1));
        for (int k = 0; k <= 5; k++) {
            int at = k;
            int due = k < stops.length ? stops[k] : Check.NONE;
            Check.answers("11 past: k " + k + ": " + why, Check.with(text), due, x -> x.past(t, at));
        }
    }

    private static void waysPast() {
        past("OWNED by THE WORLD: NONE", Check.SIX, 0);
        past("OWNED by THE WORLD, several ways: NONE", "o;pw;pw,w0,w1,10", 0);
        past("each way by its OWNER: NONE", Check.SIX, 2);
        past("not REACHED: NONE", "o;pw;p0;pw,w0,21", 1);
        past("its OWNER is not REACHED", "o;pw;p0,w1", 1, 1);
        past("a way of one", "o;pw;p0,w0,01,w1", 1, 1);
        past("a way of three", Check.SIX, 3, 4, 5, 3);
        past("a way by the first thing", "o;pw;pw;p1,w0,w1,12,02", 2, 0, 2);
        past("a way by the first thing, that is not the first stop", "o;pw;pw;pw;p1,w2,20,w1,13,03", 3, 2, 0, 3);
        past("a way to the first thing", "o;pw;pw;pw,w2,21,10", 0);
        past("the longest way, of five", "o;pw;pw;pw;pw;pw;p0,w1,12,23,34,45,w0,05", 5, 1, 2, 3, 4, 5);
        past("the longest way of the first thing", "o;pw;pw;p1;p1;p1;p1,w5,54,43,32,20", 2, 5, 4, 3, 2);
        past("the fewest ahead of lower numbers", "o;pw;pw;pw;pw;pw;p0,w1,12,25,w4,45", 5, 4, 5);
        past("of two the lower first number", "o;pw;pw;pw;pw;pw;p0,w4,w3,45,35", 5, 3, 5);
        past("those that differ first, not the later ones", "o;pw;pw;pw;pw;pw;p0,w2,24,45,w3,31,15", 5, 2, 4, 5);
        past("those that differ second", "o;pw;pw;pw;pw;pw;p0,w2,24,45,21,15", 5, 2, 1, 5);
        past("a lower number that leads nowhere", "o;pw;pw;pw;p0,w1,w2,23", 3, 2, 3);
        past("a lower number by which it is longer", "o;pw;pw;pw;pw;p0,w1,12,24,w3,34", 4, 3, 4);
        past("the lower number is its OWNER", "o;pw;pw;p0,w0,w1,02,12", 2, 1, 2);
        past("OWNER in the middle of the fewest", "o;pw;pw;pw;pw;p0,w1,10,04,12,23,34", 4, 1, 2, 3, 4);
    }

    private static void pastRefused() {
        for (int t : new int[] {-1, 6, 7, Check.LEAST, Check.MOST}) {
            Check.refused("11 past: UNKNOWN: thing " + t, Check.UNKNOWN, x -> x.past(t, 0));
        }
        for (int k : new int[] {-2, 6, Check.LEAST, Check.MOST}) {
            Check.refused("11 past: OUTSIDE: k " + k, Check.OUTSIDE, x -> x.past(3, k));
        }
        Check.refused("11 past: UNKNOWN ahead of OUTSIDE", Check.UNKNOWN, x -> x.past(6, 6));
        Check.answers("11 past: UNKNOWN: the first that is none", Check.with("o;pw;p0"), Check.UNKNOWN, x -> x.past(2, -1));
        Check.keeps("11 past: changes nothing", Check.full(), 3, Check.KEPT, x -> x.past(3, -1));
    }

    private static void locks(String why, int want, int... row) {
        OwnedThings x = Check.full();
        Check.row(x, 2, row);
        Check.keeps("12 locks: " + why, x, want, 0, y -> y.locks(2, 2, 0, row.length));
    }

    /** The locks of the six are 1, 3, 6, 2, 2, 2. */
    private static void locksInOrder() {
        locks("none", 0);
        locks("one", 1, 2);
        locks("all", 4, 0, 3, 1, 2);
        locks("alike are not IN ORDER", 1, 3, 4);
        locks("one more is", 2, 3, 1);
        locks("one less is not", 1, 1, 3);
        locks("the same again", 1, 0, 0);
        locks("the last breaks it", 3, 0, 3, 1, 3);
        locks("up to a lower one, behind which they rise again", 2, 0, 1, 3, 2);
        locks("the one ahead counts, not the greatest", 1, 2, 0, 1);
        locks("twenty", 1, new int[20]);
        int[] row = new int[20];
        row[19] = 6;
        locks("the twentieth is no THING", Check.UNKNOWN, row);
        Check.test("12 locks: n of a row alone, from i on");
        OwnedThings x = Check.with(Check.SIX);
        Check.row(x, 2, 9, 0, 3, 1, 9);
        Check.due("from the middle on", x.locks(2, 2, 1, 3), 3);
        Check.due("two of them", x.locks(2, 2, 1, 2), 2);
        Check.due("from ahead", x.locks(2, 2, 0, 3), Check.UNKNOWN);
        Check.due("up to the end", x.locks(2, 2, 2, 3), Check.UNKNOWN);
        Check.test("12 locks: in each lane");
        Check.lay(x, 0, 0, 0, 3 + 256, 1);
        Check.due("cut to bytes", x.locks(0, 0, 0, 3), 3);
        Check.lay(x, 1, 1, 0, 3 + 65536, 1);
        Check.due("cut to shorts", x.locks(1, 1, 0, 3), 3);
        Check.lay(x, 1, 2, 0, 3 + 65536, 1);
        Check.due("not cut", x.locks(1, 2, 0, 3), Check.UNKNOWN);
        Check.test("12 locks: six locks in order");
        OwnedThings chain = Check.with("o;dw;d0;d1;d2;d3;d4");
        Check.row(chain, 0, 0, 1, 2, 3, 4, 5);
        Check.due("all", chain.locks(0, 2, 0, 6), 6);
        Check.test("12 locks: of what is owned anew");
        chain.own(3, 6);
        Check.due("up to the third", chain.locks(0, 2, 0, 6), 3);
    }

    private static void locksRefused() {
        for (int k : new int[] {-1, 4, Check.LEAST, Check.MOST}) {
            Check.refusedFaultless("12 locks: UNKNOWN: sheet " + k, Check.UNKNOWN, x -> x.locks(k, 2, 0, 0));
        }
        for (int lane : new int[] {-1, 3, Check.LEAST, Check.MOST}) {
            Check.refusedFaultless("12 locks: OUTSIDE: lane " + lane, Check.OUTSIDE, x -> x.locks(2, lane, 0, 0));
        }
        for (int n : new int[] {-1, 21, Check.LEAST, Check.MOST}) {
            Check.refusedFaultless("12 locks: OUTSIDE: n " + n, Check.OUTSIDE, x -> x.locks(2, 2, 0, n));
        }
        Check.refusedFaultless("12 locks: UNKNOWN ahead of OUTSIDE", Check.UNKNOWN, x -> x.locks(4, 3, 0, 21));
        Check.refusedFaultless("12 locks: OUTSIDE: lane ahead of NULL", Check.OUTSIDE, x -> x.locks(3, 3, 0, 0));
        Check.refusedFaultless("12 locks: OUTSIDE: n ahead of NULL", Check.OUTSIDE, x -> x.locks(3, 2, 0, -1));
        for (int number : new int[] {-1, 6, 7, Check.LEAST, Check.MOST}) {
            locks("UNKNOWN: a cell is " + number, Check.UNKNOWN, number);
        }
        locks("UNKNOWN: the first cell", Check.UNKNOWN, 6, 0);
        locks("UNKNOWN: a cell behind those IN ORDER", Check.UNKNOWN, 0, 0, 6);
        OwnedThings two = Check.with("o;pw;p0");
        Check.row(two, 2, 0, 1, 2);
        Check.keeps("12 locks: UNKNOWN: the first that is none", two, Check.UNKNOWN, 0, x -> x.locks(2, 2, 0, 3));
    }

    private static void locksFaults() {
        for (int lane = 0; lane <= 2; lane++) {
            int taken = lane;
            Check.faulted("12 locks: nothing is no CAST, lane " + lane, Check.NULL, x -> x.locks(3, taken, 0, 0));
            for (int k = 0; k <= 2; k++) {
                int sheet = k;
                if (k != lane) {
                    Check.faulted("12 locks: CAST: sheet " + k + " as lane " + lane, Check.CAST, x -> x.locks(sheet, taken, 0, 0));
                }
            }
        }
        Check.faulted("12 locks: NULL ahead of INDEX", Check.NULL, x -> x.locks(3, 2, -1, 1));
        Check.faulted("12 locks: CAST ahead of INDEX", Check.CAST, x -> x.locks(2, 1, 9, 1));
        Check.faulted("12 locks: INDEX: i below 0", Check.INDEX, x -> x.locks(2, 2, -1, 1));
        Check.faulted("12 locks: INDEX: the least i", Check.INDEX, x -> x.locks(2, 2, Check.LEAST, 1));
        Check.faulted("12 locks: INDEX: one cell too many", Check.INDEX, x -> x.locks(2, 2, 1, 6));
        Check.faulted("12 locks: INDEX: from behind the last on", Check.INDEX, x -> x.locks(2, 2, 6, 1));
        Check.faulted("12 locks: INDEX: i wraps", Check.INDEX, x -> x.locks(2, 2, Check.MOST, 20));
        Check.faulted("12 locks: INDEX: none, from -1 on", Check.INDEX, x -> x.locks(2, 2, -1, 0));
        Check.faulted("12 locks: INDEX: none, from beyond on", Check.INDEX, x -> x.locks(2, 2, 7, 0));
        Check.faulted("12 locks: INDEX ahead of no THING", Check.INDEX, x -> x.locks(2, 2, 5, 2));
        Check.keeps("12 locks: none, from the end on", Check.full(), 0, 0, x -> x.locks(2, 2, 6, 0));
    }

    private static OwnedThings withoutThings() {
        OwnedThings x = new OwnedThings();
        Check.row(x, 2, 9);
        return x;
    }

    private static void locksWithoutThings() {
        Check.keeps("12 locks: STATE: there are no THINGS", withoutThings(), Check.STATE, 0, x -> x.locks(2, 2, 0, 0));
        Check.keeps("12 locks: STATE ahead of UNKNOWN", withoutThings(), Check.STATE, 0, x -> x.locks(2, 2, 0, 1));
        Check.keeps("12 locks: NULL ahead of STATE", withoutThings(), Check.NULL, 1, x -> x.locks(3, 2, 0, 1));
        Check.keeps("12 locks: CAST ahead of STATE", withoutThings(), Check.CAST, 2, x -> x.locks(2, 0, 0, 1));
        Check.keeps("12 locks: INDEX ahead of STATE", withoutThings(), Check.INDEX, 3, x -> x.locks(2, 2, 0, 2));
        Check.keeps("12 locks: OUTSIDE ahead of STATE", withoutThings(), Check.OUTSIDE, 0, x -> x.locks(2, 2, 0, 21));
    }

    public static void main(String[] args) {
        notLawful();
        waysPast();
        pastRefused();
        locksInOrder();
        locksRefused();
        locksFaults();
        locksWithoutThings();
        Check.finish();
    }
}
