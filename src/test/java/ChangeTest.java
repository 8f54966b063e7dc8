/** Promises 6 to 8: references made and cut, things owned anew and handed on. */
public final class ChangeTest {
    private static final String LINE = "o;pw;p0;p1;pw;pw;pw,w0,01,12";

    private static void references() {
        Check.test("6 refer: made, if it is not there, else cut: how many there are then");
        OwnedThings x = Check.with("o;pw;p0;pw");
        Check.due("the first", x.refer(6, 0), 1);
        Check.due("the second", x.refer(0, 1), 2);
        Check.due("the other way round", x.refer(1, 0), 3);
        Check.due("cut", x.refer(0, 1), 2);
        Check.due("it is gone", x.refers(0, 1), 0);
        Check.due("the other way round is not", x.refers(1, 0), 1);
        Check.test("6 refer: the last one is cut");
        Check.due("one left", x.refer(6, 0), 1);
        Check.due("none left", x.refer(1, 0), 0);
        Check.due("none", x.many(1), 0);
        Check.due("made anew", x.refer(1, 0), 1);
        Check.answers("6 refer: THE WORLD's own", Check.with("o;pw"), 1, y -> y.refer(6, 0));
        Check.answers("6 refer: one told in a text is cut", Check.with("o;pw,w0"), 0, y -> y.refer(6, 0));
        Check.test("6 refer: owners and kinds stay");
        OwnedThings y = Check.with("o;pw;g0");
        y.refer(6, 1);
        Check.due("kind", y.ofThing(1, 0), 1);
        Check.due("owner", y.ofThing(1, 1), 0);
    }

    private static void referencesRefused() {
        int[][] unknown = {{7, 0}, {-1, 0}, {0, 6}, {0, -1}, {0, 7}, {Check.LEAST, 0}, {0, Check.MOST}};
        for (int[] p : unknown) {
            Check.refused("6 refer: UNKNOWN: " + p[0] + ", " + p[1], Check.UNKNOWN, x -> x.refer(p[0], p[1]));
        }
        for (int t = 0; t <= 6; t++) {
            int same = t;
            Check.refused("6 refer: UNKNOWN: both the same, " + t, Check.UNKNOWN, x -> x.refer(same, same));
        }
        String two = "o;pw;pw";
        Check.keeps("6 refer: UNKNOWN: of the first that is none", Check.with(two), Check.UNKNOWN, Check.KEPT, x -> x.refer(2, 0));
        Check.keeps("6 refer: UNKNOWN: to the first that is none", Check.with(two), Check.UNKNOWN, Check.KEPT, x -> x.refer(0, 2));
    }

    private static void fullOfReferences() {
        Check.test("6 refer: the twelfth");
        OwnedThings x = Check.with(Check.TWELVE.substring(0, 46));
        Check.due("eleven", x.many(1), 11);
        Check.due("not full", x.refer(6, 0), 12);
        Check.due("its place", x.place(6, 0), 11);
        Check.keeps("6 refer: FULL: there are 12", Check.with(Check.TWELVE), Check.FULL, Check.KEPT, y -> y.refer(6, 0));
        Check.keeps("6 refer: UNKNOWN ahead of FULL", Check.with(Check.TWELVE), Check.UNKNOWN, Check.KEPT, y -> y.refer(6, 4));
        Check.keeps("6 refer: both the same ahead of FULL", Check.with(Check.TWELVE), Check.UNKNOWN, Check.KEPT, y -> y.refer(1, 1));
        Check.test("6 refer: one of 12 is cut");
        OwnedThings full = Check.with(Check.TWELVE);
        Check.due("one in the middle", full.refer(2, 1), 11);
        Check.due("the one behind it", full.place(2, 3), 7);
        Check.due("room again", full.refer(6, 0), 12);
        Check.due("at the end", full.place(6, 0), 11);
        Check.due("the last", full.refer(6, 0), 11);
        Check.due("the first", full.refer(0, 1), 10);
        Check.due("all move up", full.place(0, 2), 0);
    }

    private static void owned() {
        Check.answers("7 own: who OWNED it: the world", Check.with(LINE), 6, x -> x.own(3, 2));
        Check.answers("7 own: who OWNED it: a thing", Check.with(LINE), 1, x -> x.own(2, 3));
        Check.answers("7 own: by the world", Check.with(LINE), 0, x -> x.own(1, 6));
        Check.answers("7 own: by the world that OWNS it", Check.with(LINE), 6, x -> x.own(0, 6));
        Check.answers("7 own: by the thing that OWNS it", Check.with(LINE), 0, x -> x.own(1, 0));
        Check.answers("7 own: by the OWNER of its OWNER", Check.with(LINE), 1, x -> x.own(2, 0));
        Check.answers("7 own: the only thing by the world", Check.with("o;pw"), 6, x -> x.own(0, 6));
        Check.test("7 own: OWNED so then");
        OwnedThings x = Check.with(LINE);
        x.own(0, 5);
        Check.due("owner", x.ofThing(0, 1), 5);
        Check.due("level", x.ofThing(0, 2), 2);
        Check.due("level of one UNDER it", x.ofThing(2, 2), 4);
        Check.due("references stay", x.many(1), 3);
        Check.test("7 own: a higher number may OWN a lower one");
        Check.due("own(5, 4)", x.own(5, 4), 6);
        Check.due("own(4, 3)", x.own(4, 3), 6);
        Check.due("six levels", x.ofThing(2, 2), 6);
        Check.test("7 own: no longer UNDER it");
        Check.due("3 is not UNDER 0", x.own(0, 6), 5);
        Check.due("now 0 may OWN it", x.own(3, 0), 6);
    }

    private static void ownedRefused() {
        for (int t : new int[] {-1, 6, 7, Check.LEAST, Check.MOST}) {
            Check.refused("7 own: UNKNOWN: thing " + t, Check.UNKNOWN, x -> x.own(t, 0));
        }
        for (int owner : new int[] {-1, 7, Check.LEAST, Check.MOST}) {
            Check.refused("7 own: UNKNOWN: owner " + owner, Check.UNKNOWN, x -> x.own(0, owner));
        }
        for (int t = 0; t < 6; t++) {
            int same = t;
            Check.refused("7 own: UNKNOWN: both the same, " + t, Check.UNKNOWN, x -> x.own(same, same));
        }
        Check.refused("7 own: UNKNOWN: the world by itself", Check.UNKNOWN, x -> x.own(6, 6));
        String two = "o;pw;p0";
        Check.keeps("7 own: UNKNOWN: the first that is none", Check.with(two), Check.UNKNOWN, Check.KEPT, x -> x.own(2, 6));
        Check.keeps("7 own: UNKNOWN: by the first that is none", Check.with(two), Check.UNKNOWN, Check.KEPT, x -> x.own(0, 2));
        Check.refused("7 own: STATE: that is right UNDER it", Check.STATE, x -> x.own(0, 1));
        Check.refused("7 own: STATE: that is far UNDER it", Check.STATE, x -> x.own(0, 2));
        OwnedThings chain = Check.with("o;pw;p0;p1;p2;p3;p4");
        Check.keeps("7 own: STATE: five levels UNDER it", chain, Check.STATE, Check.KEPT, x -> x.own(0, 5));
    }

    private static void handed() {
        Check.answers("8 hand: whose REFERENCE it was: a thing's", Check.with(LINE), 1, x -> x.hand(2, 0));
        Check.answers("8 hand: whose REFERENCE it was: the world's", Check.with(LINE), 6, x -> x.hand(0, 5));
        Check.answers("8 hand: whose REFERENCE it was, not who OWNED it", Check.with("o;pw;p0;pw,w0,21"), 2, x -> x.hand(1, 0));
        Check.answers("8 hand: to one that is not REACHED", Check.with(LINE), 1, x -> x.hand(2, 4));
        Check.answers("8 hand: to the OWNER of its OWNER", Check.with(LINE), 1, x -> x.hand(2, 0));
        Check.test("8 hand: the other one's REFERENCE, in the place of the old one, which OWNS it, too");
        OwnedThings x = Check.with(LINE);
        x.hand(1, 3);
        Check.due("no longer there", x.place(0, 1), Check.NONE);
        Check.due("its place", x.place(3, 1), 1);
        Check.due("the one behind", x.place(1, 2), 2);
        Check.due("owner", x.ofThing(1, 1), 3);
        Check.due("as many", x.many(1), 3);
        Check.due("those that it OWNS stay", x.ofThing(2, 1), 1);
        Check.test("8 hand: what hangs on it comes with it");
        Check.due("nothing of it is reached", x.many(2), 1);
        x.refer(6, 3);
        Check.due("all of it is reached", x.many(2), 4);
        Check.test("8 hand: one of 12 references");
        OwnedThings full = Check.with("o;pw;pw;pw;pw;pw,01,02,03,10,12,13,20,21,23,30,31,04");
        Check.due("hand(4, 3)", full.hand(4, 3), 0);
        Check.due("the last place", full.place(3, 4), 11);
    }

    private static void handedRefused() {
        for (int t : new int[] {-1, 6, 7, Check.LEAST, Check.MOST}) {
            Check.refused("8 hand: UNKNOWN: thing " + t, Check.UNKNOWN, x -> x.hand(t, 0));
            Check.refused("8 hand: UNKNOWN: to " + t, Check.UNKNOWN, x -> x.hand(0, t));
        }
        for (int t = 0; t < 6; t++) {
            int same = t;
            Check.refused("8 hand: UNKNOWN: both the same, " + t, Check.UNKNOWN, x -> x.hand(same, same));
        }
        Check.refused("8 hand: UNKNOWN: the world to itself", Check.UNKNOWN, x -> x.hand(6, 6));
        String two = "o;pw;pw,w0";
        Check.keeps("8 hand: UNKNOWN: the first that is none", Check.with(two), Check.UNKNOWN, Check.KEPT, x -> x.hand(2, 0));
        Check.keeps("8 hand: UNKNOWN: to the first that is none", Check.with(two), Check.UNKNOWN, Check.KEPT, x -> x.hand(0, 2));
        Check.refused("8 hand: STATE: right UNDER it", Check.STATE, x -> x.hand(4, 5));
        Check.refused("8 hand: STATE: far UNDER it", Check.STATE, x -> x.hand(0, 2));
        Check.refused("8 hand: STATE: three REFERENCES to it", Check.STATE, x -> x.hand(3, 4));
        String y = "o;pw;pw;pw,w1,01,02";
        Check.keeps("8 hand: STATE: no REFERENCE to it", Check.with(y), Check.STATE, Check.KEPT, x -> x.hand(0, 1));
        Check.keeps("8 hand: STATE: two REFERENCES to it", Check.with(y), Check.STATE, Check.KEPT, x -> x.hand(1, 2));
        Check.keeps("8 hand: STATE: the other one refers to it already", Check.with(y), Check.STATE, Check.KEPT, x -> x.hand(2, 0));
        OwnedThings z = Check.with("o;pw;p0;p0,w0,21,02");
        Check.keeps("8 hand: STATE: refers to it already, though it does not OWN it", z, Check.STATE, Check.KEPT, x -> x.hand(1, 2));
    }

    public static void main(String[] args) {
        references();
        referencesRefused();
        fullOfReferences();
        owned();
        ownedRefused();
        handed();
        handedRefused();
        Check.finish();
    }
}
