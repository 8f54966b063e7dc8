/** Promises 3 to 5: what is told of things and references. */
public final class OfThingTest {
    private static final String CHAIN = "o;dw;d0;d1;d2;d3;d4,w0,01,12,23,34,45";

    private static void allOf(String text, int t, int... due) {
        OwnedThings x = Check.with(text);
        for (int what = 0; what < due.length; what++) {
            int asked = what;
            Check.answers("3 ofThing(" + t + ", " + what + ") of " + text, x, due[what], y -> y.ofThing(t, asked));
        }
    }

    private static void ofThing(String why, String text, int t, int what, int want) {
        Check.answers("3 ofThing: " + why, Check.with(text), want, x -> x.ofThing(t, what));
    }

    private static void sixThings() {
        allOf(Check.SIX, 0, 0, 6, 1, 1, Check.set(1, 3), 1, Check.set(0, 6), 1, 6, Check.set(0, 1, 2, 3), 0);
        allOf(Check.SIX, 1, 1, 0, 2, 3, Check.set(2), 1, Check.set(0, 1, 6), 1, 0, Check.set(1, 2, 3), 0);
        allOf(Check.SIX, 2, 2, 1, 3, 6, Check.set(3), 1, Check.set(0, 1, 2, 6), 1, 1, Check.set(2, 3), 0);
        allOf(Check.SIX, 3, 0, 0, 2, 2, 0, 1, Check.set(3, 6), 0, 6, Check.set(3), 1);
        allOf(Check.SIX, 4, 1, 6, 1, 2, Check.set(5), 1, Check.set(4, 6), 1, 6, Check.set(3, 4, 5), 0);
        allOf(Check.SIX, 5, 0, 4, 2, 2, Check.set(3), 1, Check.set(4, 5, 6), 1, 4, Check.set(3, 5), 0);
        allOf("o;pw;d0;g1,12,21,02", 0, 0, 6, 1, 1, Check.set(2), 0, 0, 1, 6, Check.set(0, 1, 2), 1);
        allOf("o;pw;d0;g1,12,21,02", 1, 2, 0, 2, 4, Check.set(2), 0, 0, 1, 6, Check.set(1, 2), 0);
        allOf("o;pw;d0;g1,12,21,02", 2, 1, 1, 3, 4, Check.set(1), 0, 0, 1, 6, Check.set(1, 2), 1);
        allOf("o;pw", 0, 0, 6, 1, 1, 0, 0, 0, 1, 6, Check.set(0), 1);
    }

    private static void refused() {
        for (int t : new int[] {-1, 6, 7, Check.LEAST, Check.MOST}) {
            Check.refused("3 ofThing: UNKNOWN: thing " + t, Check.UNKNOWN, x -> x.ofThing(t, 0));
        }
        ofThing("UNKNOWN: behind the last one", "o;pw;p0", 2, 1, Check.UNKNOWN);
        for (int what : new int[] {-1, 11, Check.LEAST, Check.MOST}) {
            Check.refused("3 ofThing: OUTSIDE: what " + what, Check.OUTSIDE, x -> x.ofThing(0, what));
        }
        Check.refused("3 ofThing: UNKNOWN ahead of OUTSIDE", Check.UNKNOWN, x -> x.ofThing(6, 11));
        for (int what = 0; what <= 10; what++) {
            int asked = what;
            Check.keeps("3 ofThing: changes nothing, what " + what, Check.full(), Check.full().ofThing(3, what),
                    Check.KEPT, x -> x.ofThing(3, asked));
        }
    }

    private static void levelsAndLocks() {
        for (int t = 0; t < 6; t++) {
            ofThing("LEVEL of " + t + " of a chain", CHAIN, t, 2, t + 1);
            ofThing("LOCK of a double one, LEVEL " + (t + 1), CHAIN, t, 3, 2 * (t + 1));
            ofThing("LOCK of a guarded one, LEVEL " + (t + 1), CHAIN.replace('d', 'g'), t, 3, t + 2);
            ofThing("LOCK of a plain one, LEVEL " + (t + 1), CHAIN.replace('d', 'p'), t, 3, t + 1);
        }
        ofThing("OWNER the world is 6", CHAIN, 0, 1, 6);
        ofThing("OWNER of the sixth", CHAIN, 5, 1, 4);
    }

    private static void reachedAndBefore() {
        ofThing("REACHED by the longest way", CHAIN, 5, 5, 1);
        ofThing("all STAND BEFORE the last of a chain, itself and the world, too", CHAIN, 5, 6, 127);
        ofThing("not REACHED, if it refers to itself by others alone", "o;pw;pw;pw,01,10,w2", 0, 5, 0);
        ofThing("no way to it: none STANDS BEFORE", "o;pw;pw;pw,01,10,w2", 0, 6, 0);
        ofThing("not REACHED, if it just leads to one that is", "o;pw;pw,w0,10", 1, 5, 0);
        ofThing("references of one that is not REACHED are no ways", "o;pw;p0;pw,w0,01,21", 1, 6, Check.set(0, 1, 6));
        ofThing("two ways, the world and itself STAND BEFORE", "o;pw;pw;pw,w0,w1,02,12", 2, 6, Check.set(2, 6));
        ofThing("two ways that part and meet again", "o;pw;pw;pw;pw,w0,01,02,13,23", 3, 6, Check.set(0, 3, 6));
        ofThing("a way back does not part them", "o;pw;p0;p1,w0,01,12,21,20", 0, 6, Check.set(0, 6));
    }

    private static void lawful() {
        ofThing("LAWFUL, if not REACHED, with an owner that is", "o;pw;p0,w0", 1, 7, 1);
        ofThing("LAWFUL, owned by the world", "o;pw;pw,w0,w1,01", 1, 7, 1);
        ofThing("LAWFUL, if the owner's owner's way is the only one", "o;pw;p0;p0,w0,01,12", 2, 7, 1);
        ofThing("not LAWFUL, if its owner is not REACHED", "o;pw;p0,w1", 1, 7, 0);
        ofThing("not LAWFUL, if one way of two leaves the owner out", "o;pw;p0,w0,w1,01", 1, 7, 0);
        ofThing("not LAWFUL, if its owner comes behind it", "o;pw;p0,w1,10", 1, 7, 0);
        ofThing("LAWFUL, though the way goes back to the owner", "o;pw;p0,w0,01,10", 1, 7, 1);
    }

    private static void nearest() {
        ofThing("NEAREST of one not REACHED is the world", "o;pw;p0,01,10", 1, 8, 6);
        ofThing("NEAREST of one right behind the world", "o;pw,w0", 0, 8, 6);
        ofThing("NEAREST, but itself", CHAIN, 0, 8, 6);
        ofThing("NEAREST of the last of a chain", CHAIN, 5, 8, 4);
        ofThing("NEAREST ahead of where ways part", "o;pw;pw;pw;pw,w0,01,02,13,23", 3, 8, 0);
        ofThing("NEAREST with a higher number", "o;pw;pw;pw,w2,21,10", 0, 8, 1);
        ofThing("NEAREST is not its owner", "o;pw;p0;p0,w0,01,12", 2, 8, 1);
        ofThing("NEAREST, if ways meet", "o;pw;pw;pw,w0,w1,02,12", 2, 8, 6);
    }

    private static void tails() {
        ofThing("TAIL of one that refers to none", "o;pw;pw,w0,10", 0, 9, Check.set(0));
        ofThing("TAIL of all", CHAIN, 0, 9, 63);
        ofThing("TAIL of the last", CHAIN, 5, 9, Check.set(5));
        ofThing("TAIL round and back", "o;pw;pw;pw,01,12,20", 1, 9, Check.set(0, 1, 2));
        ofThing("CLOSED, if nothing leads to it", "o;pw;pw,01", 0, 10, 1);
        ofThing("CLOSED, if one from outside leads to the thing itself", "o;pw;p0,w0,01", 1, 10, 1);
        ofThing("CLOSED, if several from outside lead to the thing itself", "o;pw;pw;pw,w0,10,02", 0, 10, 1);
        ofThing("CLOSED, if one of TAIL leads to one of TAIL", "o;pw;pw;pw,w0,01,02,12,21", 0, 10, 1);
        ofThing("not CLOSED by the world's reference", "o;pw;pw,w0,01,w1", 0, 10, 0);
        ofThing("not CLOSED by the first reference", "o;pw;pw,w1,01,w0", 0, 10, 0);
        ofThing("not CLOSED by a thing's reference", "o;pw;pw;pw,w0,01,21", 0, 10, 0);
        ofThing("not CLOSED by one that is not REACHED", "o;pw;pw;pw,01,21", 0, 10, 0);
        ofThing("CLOSED, though one leads out of nowhere to another", "o;pw;pw;pw;pw,w0,01,23", 0, 10, 1);
        ofThing("to whom it refers: none", CHAIN, 5, 4, 0);
        ofThing("to whom it refers: five", "o;pw;pw;pw;pw;pw;pw,50,51,52,53,54", 5, 4, 31);
        ofThing("to whom it refers: not who refers to it", "o;pw;pw,w0,10", 0, 4, 0);
    }

    private static void afterCuts() {
        Check.test("3 ofThing: what is cut is no longer looked at");
        OwnedThings x = Check.with("o;pw;p0,01,w1");
        Check.due("past 1", x.past(1, -1), 1);
        Check.due("open by the last reference", x.ofThing(0, 10), 0);
        x.refer(6, 1);
        Check.due("past 1 then", x.past(1, -1), Check.NONE);
        Check.due("closed then", x.ofThing(0, 10), 1);
        x.refer(0, 1);
        Check.due("to whom it refers", x.ofThing(0, 4), 0);
        Check.due("tail", x.ofThing(0, 9), 1);
    }

    private static void references() {
        String text = "o;pw;p0;pw,w0,01,20,w2";
        int[][] pairs = {{6, 0, 0}, {0, 1, 1}, {2, 0, 2}, {6, 2, 3}};
        for (int[] p : pairs) {
            Check.answers("4 refers: " + p[0] + " to " + p[1], Check.with(text), 1, x -> x.refers(p[0], p[1]));
            Check.answers("5 place: " + p[0] + " to " + p[1], Check.with(text), p[2], x -> x.place(p[0], p[1]));
        }
        int[][] others = {{6, 1}, {1, 0}, {0, 2}, {0, 0}, {2, 2}};
        for (int[] p : others) {
            Check.answers("4 refers: not " + p[0] + " to " + p[1], Check.with(text), 0, x -> x.refers(p[0], p[1]));
            Check.answers("5 place: NONE of " + p[0] + " to " + p[1], Check.with(text), Check.NONE, x -> x.place(p[0], p[1]));
        }
        int[][] unknown = {{3, 0}, {0, 3}, {-1, 0}, {0, -1}, {7, 0}, {0, 6}, {6, 6}, {6, 3}, {5, 0}, {Check.LEAST, 0}, {0, Check.MOST}};
        for (int[] p : unknown) {
            String which = p[0] + " to " + p[1];
            Check.answers("4 refers: UNKNOWN: " + which, Check.with(text), Check.UNKNOWN, x -> x.refers(p[0], p[1]));
            Check.answers("5 place: UNKNOWN: " + which, Check.with(text), Check.UNKNOWN, x -> x.place(p[0], p[1]));
        }
        Check.keeps("4 refers: changes nothing", Check.full(), 1, Check.KEPT, x -> x.refers(6, 0));
        Check.keeps("5 place: changes nothing", Check.full(), 7, Check.KEPT, x -> x.place(5, 3));
        Check.refused("4 refers: refused", Check.UNKNOWN, x -> x.refers(0, 6));
        Check.refused("5 place: refused", Check.UNKNOWN, x -> x.place(0, 6));
        Check.answers("4 refers: the world, too, without things", new OwnedThings(), Check.UNKNOWN, x -> x.refers(6, 0));
        Check.answers("5 place: the world, too, without things", new OwnedThings(), Check.UNKNOWN, x -> x.place(6, 0));
        Check.answers("4 refers: the world to the only thing", Check.with("o;pw"), 0, x -> x.refers(6, 0));
        Check.answers("5 place: the last of twelve", Check.with(Check.TWELVE), 11, x -> x.place(3, 2));
    }

    private static void places() {
        Check.test("5 place: in the order in which they were made");
        OwnedThings x = Check.with("o;pw;p0;pw,w0,01,20,w2");
        x.refer(0, 1);
        Check.due("ahead of the cut one", x.place(6, 0), 0);
        Check.due("behind the cut one", x.place(2, 0), 1);
        Check.due("the last", x.place(6, 2), 2);
        x.refer(0, 1);
        Check.due("made anew", x.place(0, 1), 3);
        Check.test("5 place: one that is handed on keeps its place");
        x.hand(2, 0);
        Check.due("handed on", x.place(0, 2), 2);
        Check.due("no longer there", x.place(6, 2), Check.NONE);
        Check.due("behind it", x.place(0, 1), 3);
    }

    public static void main(String[] args) {
        sixThings();
        refused();
        levelsAndLocks();
        reachedAndBefore();
        lawful();
        nearest();
        tails();
        afterCuts();
        references();
        places();
        Check.finish();
    }
}
