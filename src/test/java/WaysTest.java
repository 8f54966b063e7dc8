/** Promises 10 to 12: who is not lawful, ways past the owner, locks in order. */
public final class WaysTest {
    private static void notLawful() {
        OwnedThings x = Check.with(Check.SIX);
        Check.due("unlawful()", x.unlawful(), Check.set(3));
        x.refer(5, 3);
        Check.due("unlawful() without the way past", x.unlawful(), 0);
        x.own(3, 1);
        Check.due("unlawful() with another owner", x.unlawful(), Check.set(3));
        x.refer(6, 1);
        Check.due("unlawful() with more ways", x.unlawful(), Check.set(1, 3));
        x.refer(6, 0);
        Check.due("unlawful(): 0 is not reached", x.unlawful(), Check.set(1));
        x.refer(6, 0);
        x.own(0, 4);
        Check.due("unlawful() of 0", x.unlawful(), Check.set(0, 1, 3));
    }

    private static void past(OwnedThings x, int t, int... stops) {
        int length = stops.length == 0 ? Check.NONE : stops.length;
        Check.due("past(" + t + ", -1)", x.past(t, -1), length);
        for (int k = 0; k <= 5; k++) {
            int due = k < stops.length ? stops[k] : Check.NONE;
            Check.due("past(" + t + ", " + k + ")", x.past(t, k), due);
        }
    }

    private static void waysPast() {
        OwnedThings x = Check.with(Check.SIX);
        past(x, 0);
        past(x, 1);
        past(x, 2);
        past(x, 3, 4, 5, 3);
        past(x, 4);
        past(x, 5);
        x.own(3, 2);
        past(x, 3, 0, 3);
        x.own(3, 6);
        past(x, 3);
        Check.due("no such thing", x.past(6, 9), Check.UNKNOWN);
        Check.due("no such thing", x.past(-1, 0), Check.UNKNOWN);
        Check.due("k below -1", x.past(0, -2), Check.OUTSIDE);
        Check.due("k above 5", x.past(0, 6), Check.OUTSIDE);
        // Of several of the same length the first; the shortest ahead of lower numbers.
        OwnedThings y = Check.with("o;pw;pw;pw;pw;pw;p0,w4,w3,w2,41,32,31,25,15");
        past(y, 5, 2, 5);
        y.refer(2, 5);
        past(y, 5, 3, 1, 5);
        y.refer(2, 1);
        past(y, 5, 2, 1, 5);
        // The longest one there can be.
        OwnedThings z = Check.with("o;pw;pw;pw;pw;pw;p0,w1,12,23,34,45,w0,05");
        past(z, 5, 1, 2, 3, 4, 5);
    }

    private static int locks(OwnedThings x, int... row) {
        Check.row(x, 1, row);
        return x.locks(1, 2, 0, row.length);
    }

    private static void locksInOrder() {
        OwnedThings x = Check.with(Check.SIX);
        // Locks are 1, 3, 6, 2, 2, 2.
        Check.due("none", locks(x), 0);
        Check.due("one", locks(x, 2), 1);
        Check.due("all", locks(x, 0, 3, 1, 2), 4);
        Check.due("alike are not in order", locks(x, 3, 4), 1);
        Check.due("the same again", locks(x, 0, 0), 1);
        Check.due("up to a lower one", locks(x, 0, 1, 3, 2), 2);
        Check.due("the one ahead counts, not the greatest", locks(x, 2, 0, 1), 1);
        Check.due("the world", locks(x, 0, 6), Check.UNKNOWN);
        Check.due("the world ahead", locks(x, 6, 0), Check.UNKNOWN);
        Check.due("no thing behind the end of the order", locks(x, 0, 0, -1), Check.UNKNOWN);
        Check.due("no fault", x.fault(), 0);
        int[] long20 = new int[20];
        Check.due("twenty", locks(x, long20), 1);
        Check.due("from the middle", x.locks(1, 2, 19, 1), 1);
    }

    private static void locksRefused() {
        OwnedThings x = Check.with(Check.SIX);
        Check.row(x, 1, 0, 1, 9);
        Check.due("no such sheet", x.locks(-1, 9, 0, 0), Check.UNKNOWN);
        Check.due("no such lane", x.locks(1, -1, 0, 0), Check.OUTSIDE);
        Check.due("n below 0", x.locks(1, 2, 0, -1), Check.OUTSIDE);
        Check.due("n above 20", x.locks(1, 2, 0, 21), Check.OUTSIDE);
        Check.due("nothing", x.locks(0, 2, 0, 1), Check.NULL);
        Check.due("fault", x.fault(), 1);
        Check.due("another lane", x.locks(1, 1, 7, 1), Check.CAST);
        Check.due("fault", x.fault(), 2);
        Check.due("too far", x.locks(1, 2, 2, 2), Check.INDEX);
        Check.due("fault", x.fault(), 3);
        Check.due("none, too far", x.locks(1, 2, 4, 0), Check.INDEX);
        Check.due("none, at the end", x.locks(1, 2, 3, 0), 0);
        Check.due("only n are looked at", x.locks(1, 2, 0, 2), 2);
        OwnedThings y = new OwnedThings();
        Check.row(y, 1, 9);
        Check.due("no things ahead of no such thing", y.locks(1, 2, 0, 1), Check.STATE);
        Check.due("unlawful() without things", y.unlawful(), Check.STATE);
    }

    public static void main(String[] args) {
        notLawful();
        waysPast();
        locksInOrder();
        locksRefused();
        Check.finish();
    }
}
