/** Promises 13 to 17: readings, what follows from them, odds. */
public final class ReadingsTest {
    private static void toldAndTakenBack() {
        OwnedThings x = Check.with("o;pw;p0;pw");
        for (int k = 0; k < 8; k++) {
            Check.due("reading's number", x.reading(k % 2, 2, k % 2), k);
            Check.due("how many", x.many(4), k + 1);
        }
        Check.due("a ninth", x.reading(0, 1, 0), Check.FULL);
        Check.due("unknown ahead of full", x.reading(0, 3, 0), Check.UNKNOWN);
        Check.due("outside ahead of full", x.reading(0, 1, 2), Check.OUTSIDE);
        Check.due("back(9)", x.back(9), Check.OUTSIDE);
        Check.due("back(-1)", x.back(-1), Check.OUTSIDE);
        Check.due("back(0)", x.back(0), 8);
        Check.due("back(3)", x.back(3), 5);
        Check.due("numbered by how many there are", x.reading(0, 1, 1), 5);
        Check.due("back(6)", x.back(6), 0);
        Check.due("back(1)", x.back(1), Check.OUTSIDE);
        Check.due("both the same", x.reading(1, 1, 9), Check.UNKNOWN);
        Check.due("the world has no lock", x.reading(6, 1, 0), Check.UNKNOWN);
        Check.due("the world has no lock", x.reading(1, 6, 0), Check.UNKNOWN);
        Check.due("no such thing", x.reading(-1, 1, 0), Check.UNKNOWN);
        Check.due("less below 0", x.reading(0, 1, -1), Check.OUTSIDE);
    }

    private static void kinds() {
        OwnedThings x = Check.with("o;pw;p0;p1;pw");
        Check.due("no readings", x.kinds(2), 7);
        x.reading(0, 1, 1);
        // Lock of 0: 1, 2, 2 by kind; of 1: 2, 3, 4.
        Check.due("kinds(0)", x.kinds(0), Check.set(0));
        Check.due("kinds(1)", x.kinds(1), 7);
        Check.due("kinds(3)", x.kinds(3), 7);
        x.reading(2, 1, 1);
        // Lock of 2 is 3: no lock of 0, and only two of 1 alone, make both so.
        Check.due("kinds(0) of two", x.kinds(0), 0);
        Check.due("kinds(1) of two", x.kinds(1), Check.set(2));
        Check.due("kinds(2) of two", x.kinds(2), 0);
        x.back(1);
        Check.due("kinds(0) again", x.kinds(0), Check.set(0));
        x.reading(1, 0, 0);
        Check.due("what is not less", x.kinds(0), Check.set(0));
        Check.due("alike are not less", Check.with("o;pw;pw").kinds(1), 7);
        OwnedThings y = Check.with("o;pw;pw");
        y.reading(0, 1, 0);
        Check.due("not less", y.kinds(1), Check.set(0));
        Check.due("not less", y.kinds(0), 7);
        Check.due("no such thing", y.kinds(2), Check.UNKNOWN);
        Check.due("the world", y.kinds(6), Check.UNKNOWN);
        Check.due("nothing is changed", y.ofThing(1, 0), 0);
    }

    private static void owners() {
        OwnedThings x = Check.with("o;pw;p0;p1;pw");
        Check.due("owners(0)", x.owners(0), Check.set(3, 6));
        Check.due("owners(1)", x.owners(1), Check.set(0, 3, 6));
        Check.due("owners(2)", x.owners(2), Check.set(0, 1, 3, 6));
        Check.due("owners(3)", x.owners(3), Check.set(0, 1, 2, 6));
        Check.due("no such thing", x.owners(4), Check.UNKNOWN);
        Check.due("the world", x.owners(6), Check.UNKNOWN);
        x.reading(3, 2, 1);
        // Levels of all under a thing change with its owner.
        Check.due("owners(0) of one", x.owners(0), Check.set(3, 6));
        Check.due("owners(1) of one", x.owners(1), Check.set(0, 3, 6));
        Check.due("owners(2) of one", x.owners(2), Check.set(0, 1, 3));
        Check.due("owners(3) of one", x.owners(3), Check.set(0, 6));
        x.reading(1, 3, 1);
        Check.due("owners(3) of two", x.owners(3), 0);
        Check.due("nothing is changed", x.ofThing(3, 1), 6);
        x.back(2);
        x.reading(2, 3, 1);
        Check.due("owners(3) under 2 alone", x.owners(3), Check.set(2));
        x.own(3, 2);
        Check.due("readings stay when owned anew", x.many(4), 1);
        Check.due("owners(3) then", x.owners(3), Check.set(2));
        Check.due("owners(2) then", x.owners(2), Check.set(0, 1, 6));
    }

    private static void odds(String text, int upper, int lower) {
        OwnedThings x = Check.with(text);
        Check.due("upper of " + text, x.odds(0), upper);
        Check.due("lower of " + text, x.odds(1), lower);
    }

    private static void shares() {
        odds("o;pw,w0", 1, 1);
        odds("o;pw;p0,w0,01", 1, 1);
        odds("o;pw;p0,w0,01,w1", 1, 3);
        odds("o;pw;p0;p0;p0,w0,w1,w2,01", 0, 1);
        odds("o;pw;p0;pw,w0,01,w1,w2,02,20", 1, 6);
        odds(Check.SIX, 3, 8);
        odds("o;pw;p0;pw,01,w1,02,20", 1, 4);
        odds("o;pw;p0;pw,02,w0,20,w2", 1, 1);
        odds("o;pw;p0;pw;pw,w2,23,31,01", 3, 4);
        odds("o;pw;p0;pw,w2,21,w0,01", 1, 2);
        OwnedThings x = Check.with("o;pw;pw");
        Check.due("no references", x.odds(0), OwnedThings.LOST);
        x.refer(6, 0);
        Check.due("which below 0", x.odds(-1), OwnedThings.LOST);
        Check.due("which above 1", x.odds(2), OwnedThings.LOST);
        Check.due("nothing is cut", x.odds(0) + x.many(1), 2);
    }

    public static void main(String[] args) {
        toldAndTakenBack();
        kinds();
        owners();
        shares();
        Check.finish();
    }
}
