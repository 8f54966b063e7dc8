/** Promises 3 to 5: what is told of things and references. */
public final class OfThingTest {
    private static void allOf(OwnedThings x, int t, int... due) {
        for (int what = 0; what < due.length; what++) {
            Check.due("ofThing(" + t + ", " + what + ")", x.ofThing(t, what), due[what]);
        }
    }

    private static void sixThings() {
        OwnedThings x = Check.with(Check.SIX);
        allOf(x, 0, 0, 6, 1, 1, Check.set(1, 3), 1, Check.set(0, 6), 1, 6, Check.set(0, 1, 2, 3), 0);
        allOf(x, 1, 1, 0, 2, 3, Check.set(2), 1, Check.set(0, 1, 6), 1, 0, Check.set(1, 2, 3), 0);
        allOf(x, 2, 2, 1, 3, 6, Check.set(3), 1, Check.set(0, 1, 2, 6), 1, 1, Check.set(2, 3), 0);
        allOf(x, 3, 0, 0, 2, 2, 0, 1, Check.set(3, 6), 0, 6, Check.set(3), 1);
        allOf(x, 4, 1, 6, 1, 2, Check.set(5), 1, Check.set(4, 6), 1, 6, Check.set(3, 4, 5), 0);
        allOf(x, 5, 0, 4, 2, 2, Check.set(3), 1, Check.set(4, 5, 6), 1, 4, Check.set(3, 5), 0);
        Check.due("no such thing", x.ofThing(-1, 0), Check.UNKNOWN);
        Check.due("the world is no thing", x.ofThing(6, 11), Check.UNKNOWN);
        Check.due("no such question", x.ofThing(0, -1), Check.OUTSIDE);
        Check.due("no such question", x.ofThing(0, 11), Check.OUTSIDE);
    }

    private static void notReached() {
        OwnedThings x = Check.with("o;pw;d0;g1,12,21,02");
        allOf(x, 0, 0, 6, 1, 1, Check.set(2), 0, 0, 1, 6, Check.set(0, 1, 2), 1);
        allOf(x, 1, 2, 0, 2, 4, Check.set(2), 0, 0, 1, 6, Check.set(1, 2), 0);
        allOf(x, 2, 1, 1, 3, 4, Check.set(1), 0, 0, 1, 6, Check.set(1, 2), 1);
    }

    private static void roundTrips() {
        // 1 and 2 lead to one another, but one comes to both through 0 alone.
        OwnedThings x = Check.with("o;pw;p0;p1,w0,01,12,21");
        Check.due("before 2", x.ofThing(2, 6), Check.set(0, 1, 2, 6));
        Check.due("before 1", x.ofThing(1, 6), Check.set(0, 1, 6));
        Check.due("nearest of 2", x.ofThing(2, 8), 1);
        Check.due("tail of 1 is closed", x.ofThing(1, 10), 1);
        Check.due("tail of 2 is not closed", x.ofThing(2, 10), 0);
        // A reference of the world from outside, too.
        x.refer(6, 2);
        Check.due("before 2 then", x.ofThing(2, 6), Check.set(2, 6));
        Check.due("before 1 then", x.ofThing(1, 6), Check.set(1, 6));
        Check.due("2 is not lawful", x.ofThing(2, 7), 0);
        Check.due("1 is not lawful", x.ofThing(1, 7), 0);
        Check.due("tail of 1 is open", x.ofThing(1, 10), 0);
    }

    private static void openByTheFirstAndCutTheLast() {
        OwnedThings x = Check.with("o;pw;pw,w1,01,w0");
        Check.due("open by the first reference", x.ofThing(0, 10), 0);
        x.refer(6, 0);
        x.refer(6, 1);
        Check.due("closed", x.ofThing(0, 10), 1);
        x.refer(0, 1);
        Check.due("the last is cut", x.ofThing(0, 4), 0);
        Check.due("the last is cut", x.ofThing(0, 9), 1);
        OwnedThings z = Check.with("o;pw;p0,01,w1");
        Check.due("past 0", z.past(1, -1), 1);
        Check.due("open by the last reference", z.ofThing(0, 10), 0);
        z.refer(6, 1);
        Check.due("the last is cut", z.past(1, -1), Check.NONE);
        Check.due("the last is cut", z.ofThing(0, 10), 1);
        OwnedThings y = Check.with("o;pw");
        Check.due("the world, if there is one thing", y.refers(6, 0), 0);
        Check.due("the world, if there is one thing", y.own(0, 6), 6);
    }

    private static void levelsAndLocks() {
        OwnedThings x = Check.with("o;dw;d0;d1;d2;d3;d4");
        for (int t = 0; t < 6; t++) {
            Check.due("level of " + t, x.ofThing(t, 2), t + 1);
            Check.due("double lock of " + t, x.ofThing(t, 3), 2 * (t + 1));
        }
        OwnedThings y = Check.with("o;gw;g0;p1");
        Check.due("guarded lock", y.ofThing(0, 3), 2);
        Check.due("guarded lock", y.ofThing(1, 3), 3);
        Check.due("plain lock", y.ofThing(2, 3), 3);
    }

    private static void referencesAndPlaces() {
        OwnedThings x = Check.with("o;pw;p0;pw,w0,01,20,w2");
        Check.due("refers(6, 0)", x.refers(6, 0), 1);
        Check.due("refers(6, 1)", x.refers(6, 1), 0);
        Check.due("refers(0, 1)", x.refers(0, 1), 1);
        Check.due("refers(1, 0)", x.refers(1, 0), 0);
        Check.due("refers(1, 1)", x.refers(1, 1), 0);
        Check.due("refers(0, 6)", x.refers(0, 6), Check.UNKNOWN);
        Check.due("refers(3, 0)", x.refers(3, 0), Check.UNKNOWN);
        Check.due("refers(0, 3)", x.refers(0, 3), Check.UNKNOWN);
        Check.due("refers(7, 0)", x.refers(7, 0), Check.UNKNOWN);
        Check.due("refers(-1, 0)", x.refers(-1, 0), Check.UNKNOWN);
        Check.due("place(6, 0)", x.place(6, 0), 0);
        Check.due("place(0, 1)", x.place(0, 1), 1);
        Check.due("place(2, 0)", x.place(2, 0), 2);
        Check.due("place(6, 2)", x.place(6, 2), 3);
        Check.due("place(1, 1)", x.place(1, 1), Check.NONE);
        Check.due("place(1, 2)", x.place(1, 2), Check.NONE);
        Check.due("place(2, 6)", x.place(2, 6), Check.UNKNOWN);
        Check.due("place(3, 0)", x.place(3, 0), Check.UNKNOWN);
        Check.due("place(0, -1)", x.place(0, -1), Check.UNKNOWN);
        x.refer(0, 1);
        Check.due("place moves up", x.place(2, 0), 1);
        Check.due("place moves up", x.place(6, 2), 2);
        x.refer(0, 1);
        Check.due("made last", x.place(0, 1), 3);
    }

    public static void main(String[] args) {
        sixThings();
        notReached();
        roundTrips();
        openByTheFirstAndCutTheLast();
        levelsAndLocks();
        referencesAndPlaces();
        Check.finish();
    }
}
