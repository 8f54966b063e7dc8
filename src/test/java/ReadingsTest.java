/** Promises 13 to 17: readings, what follows from them, odds. */
public final class ReadingsTest {
    private static OwnedThings withReadings(int many) {
        OwnedThings x = Check.with("o;pw;p0;pw");
        for (int k = 0; k < many; k++) {
            x.reading(k % 2, 2, k % 2);
        }
        return x;
    }

    private static void numbers() {
        for (int k = 0; k < 8; k++) {
            Check.answers("13 reading: its number, of " + k + " ahead", withReadings(k), k, x -> x.reading(0, 1, 1));
        }
        Check.test("13 reading: numbered by how many there are, once some are taken back");
        OwnedThings x = withReadings(8);
        x.back(3);
        Check.due("the sixth", x.reading(0, 1, 1), 5);
        x.back(6);
        Check.due("the first", x.reading(0, 1, 1), 0);
        Check.answers("13 reading: the same again is another one", Check.full(), 2, y -> y.reading(0, 1, 1));
        Check.answers("13 reading: one that is not so", Check.full(), 2, y -> y.reading(0, 1, 0));
        Check.answers("13 reading: of the first and the sixth", Check.full(), 2, y -> y.reading(5, 0, 1));
        Check.test("13 reading: things stay as they are");
        OwnedThings z = Check.full();
        z.reading(0, 1, 0);
        Check.due("lock of 0", z.ofThing(0, 3), 1);
        Check.due("lock of 1", z.ofThing(1, 3), 3);
        Check.due("how many", z.many(4), 3);
    }

    private static void readingsRefused() {
        for (int t : new int[] {-1, 6, 7, Check.LEAST, Check.MOST}) {
            Check.refused("13 reading: UNKNOWN: " + t + " less", Check.UNKNOWN, x -> x.reading(t, 1, 1));
            Check.refused("13 reading: UNKNOWN: less than " + t, Check.UNKNOWN, x -> x.reading(1, t, 1));
        }
        for (int t = 0; t <= 6; t++) {
            int same = t;
            Check.refused("13 reading: UNKNOWN: both the same, " + t, Check.UNKNOWN, x -> x.reading(same, same, 0));
        }
        Check.keeps("13 reading: UNKNOWN: the first that is none", withReadings(2), Check.UNKNOWN, Check.KEPT, x -> x.reading(3, 0, 0));
        Check.keeps("13 reading: UNKNOWN: than the first that is none", withReadings(2), Check.UNKNOWN, Check.KEPT, x -> x.reading(0, 3, 0));
        for (int less : new int[] {-1, 2, Check.LEAST, Check.MOST}) {
            Check.refused("13 reading: OUTSIDE: less " + less, Check.OUTSIDE, x -> x.reading(0, 1, less));
        }
        Check.refused("13 reading: UNKNOWN ahead of OUTSIDE", Check.UNKNOWN, x -> x.reading(6, 1, 2));
        Check.refused("13 reading: both the same ahead of OUTSIDE", Check.UNKNOWN, x -> x.reading(1, 1, 2));
        Check.keeps("13 reading: FULL: a ninth", withReadings(8), Check.FULL, Check.KEPT, x -> x.reading(0, 1, 1));
        Check.keeps("13 reading: UNKNOWN ahead of FULL", withReadings(8), Check.UNKNOWN, Check.KEPT, x -> x.reading(0, 3, 1));
        Check.keeps("13 reading: OUTSIDE ahead of FULL", withReadings(8), Check.OUTSIDE, Check.KEPT, x -> x.reading(0, 1, 2));
    }

    private static void takenBack() {
        Check.keeps("14 back: none", withReadings(8), 8, Check.KEPT, x -> x.back(0));
        Check.keeps("14 back: none of none", withReadings(0), 0, Check.KEPT, x -> x.back(0));
        Check.keeps("14 back: none without things", new OwnedThings(), 0, Check.KEPT, x -> x.back(0));
        Check.answers("14 back: the last", withReadings(8), 7, x -> x.back(1));
        Check.answers("14 back: all but one", withReadings(8), 1, x -> x.back(7));
        Check.answers("14 back: all", withReadings(8), 0, x -> x.back(8));
        for (int n : new int[] {-1, 9, Check.LEAST, Check.MOST}) {
            Check.keeps("14 back: OUTSIDE: " + n + " of 8", withReadings(8), Check.OUTSIDE, Check.KEPT, x -> x.back(n));
        }
        Check.keeps("14 back: OUTSIDE: 3 of 2", withReadings(2), Check.OUTSIDE, Check.KEPT, x -> x.back(3));
        Check.keeps("14 back: OUTSIDE: 1 of none", withReadings(0), Check.OUTSIDE, Check.KEPT, x -> x.back(1));
        Check.keeps("14 back: OUTSIDE: 1 without things", new OwnedThings(), Check.OUTSIDE, Check.KEPT, x -> x.back(1));
        Check.test("14 back: the last ones, not the first ones");
        OwnedThings x = Check.with("o;pw;p0");
        x.reading(0, 1, 1);
        x.reading(1, 0, 1);
        Check.due("both are never so", x.kinds(0), 0);
        Check.due("one left", x.back(1), 1);
        Check.due("the first is left", x.kinds(0), Check.set(0));
        Check.due("none left", x.back(1), 0);
        Check.due("by none", x.kinds(0), 7);
        Check.test("14 back: after eight there is room again");
        OwnedThings y = withReadings(8);
        y.back(1);
        Check.due("the eighth again", y.reading(0, 1, 1), 7);
        Check.due("a ninth", y.reading(0, 1, 1), Check.FULL);
    }

    /** Kinds of t by readings a, b, less, ... */
    private static void kinds(String why, String text, int t, int want, int... readings) {
        OwnedThings x = told(text, readings);
        Check.keeps("15 kinds: " + why, x, want, Check.KEPT, y -> y.kinds(t));
    }

    private static void owners(String why, String text, int t, int want, int... readings) {
        OwnedThings x = told(text, readings);
        Check.keeps("16 owners: " + why, x, want, Check.KEPT, y -> y.owners(t));
    }

    private static OwnedThings told(String text, int... readings) {
        OwnedThings x = Check.with(text);
        for (int r = 0; r < readings.length; r += 3) {
            x.reading(readings[r], readings[r + 1], readings[r + 2]);
        }
        return x;
    }

    private static void allKinds() {
        String line = "o;pw;p0;p1;pw";
        kinds("all without READINGS", line, 2, 7);
        kinds("all, if no READING tells of it", line, 3, 7, 0, 1, 1);
        kinds("none, if another READING is not so", line, 3, 0, 0, 1, 0);
        kinds("PLAIN alone is less", line, 0, Check.set(0), 0, 1, 1);
        kinds("each of the greater one", line, 1, 7, 0, 1, 1);
        kinds("DOUBLE alone is greater", line, 1, Check.set(2), 2, 1, 1);
        kinds("by two READINGS none", line, 0, 0, 0, 1, 1, 2, 1, 1);
        kinds("by two READINGS one", line, 1, Check.set(2), 0, 1, 1, 2, 1, 1);
        kinds("by the last of eight", line, 1, Check.set(2), 0, 1, 1, 0, 1, 1, 0, 1, 1, 0, 1, 1, 0, 1, 1, 0, 1, 1, 0, 1, 1, 2, 1, 1);
        kinds("alike are not less", "o;pw;pw", 1, Check.set(0), 0, 1, 0);
        kinds("greater ones are not less", "o;pw;pw", 0, 7, 0, 1, 0);
        kinds("GUARDED and DOUBLE ones of LEVEL 1 are alike", "o;gw;pw", 1, Check.set(1, 2), 1, 0, 0, 0, 1, 0);
        kinds("in place of what it is: of another kind", "o;dw;pw", 0, Check.set(0), 1, 0, 0);
        kinds("of a kind that others keep", "o;gw;pw;pw", 2, Check.set(1, 2), 1, 2, 1);
        for (int t : new int[] {-1, 6, 7, Check.LEAST, Check.MOST}) {
            Check.refused("15 kinds: UNKNOWN: thing " + t, Check.UNKNOWN, x -> x.kinds(t));
        }
        Check.answers("15 kinds: UNKNOWN: the first that is none", Check.with(line), Check.UNKNOWN, x -> x.kinds(4));
    }

    private static void allOwners() {
        String line = "o;pw;p0;p1;pw";
        owners("nobody UNDER it, nor it itself", line, 0, Check.set(3, 6));
        owners("who OWNS it, too", line, 1, Check.set(0, 3, 6));
        owners("all but itself", line, 2, Check.set(0, 1, 3, 6));
        owners("one that THE WORLD OWNS", line, 3, Check.set(0, 1, 2, 6));
        owners("THE WORLD alone, if all are UNDER it", "o;pw;p0;p1;p2;p3;p4", 0, Check.set(6));
        owners("the only thing: THE WORLD", "o;pw", 0, Check.set(6));
        owners("six: all of five and THE WORLD", "o;pw;pw;pw;pw;pw;pw", 5, Check.set(0, 1, 2, 3, 4, 6));
        owners("none, if a READING that it is not in is not so", line, 3, 0, 0, 1, 0);
        owners("by its own LEVEL", line, 3, Check.set(0, 6), 3, 2, 1);
        owners("by its own LEVEL, of another one", line, 2, Check.set(0, 1, 3), 3, 2, 1);
        owners("by two READINGS none", line, 3, 0, 3, 2, 1, 1, 3, 1);
        owners("by two READINGS one", line, 3, Check.set(0), 3, 2, 1, 0, 3, 1);
        owners("by LEVELS of one UNDER it", "o;pw;p0;p1;pw;p3", 1, Check.set(0, 3, 4), 4, 2, 1);
        owners("by LEVELS of one UNDER it none", "o;pw;p0;p1;pw;p3", 1, 0, 2, 4, 1);
        owners("by LEVELS of one far UNDER it", "o;pw;p0;p1;pw;p3", 0, Check.set(3, 4), 2, 4, 0, 3, 0, 1);
        owners("by LOCK of a DOUBLE one", "o;pw;p0;p1;dw", 3, Check.set(0, 1, 2), 2, 3, 1);
        owners("in place of who OWNS it", line, 3, Check.set(2), 2, 3, 1);
        owners("by the last of eight", line, 3, 0, 3, 1, 0, 3, 1, 0, 3, 1, 0, 3, 1, 0, 3, 1, 0, 3, 1, 0, 3, 1, 0, 3, 1, 1);
        for (int t : new int[] {-1, 6, 7, Check.LEAST, Check.MOST}) {
            Check.refused("16 owners: UNKNOWN: thing " + t, Check.UNKNOWN, x -> x.owners(t));
        }
        Check.answers("16 owners: UNKNOWN: the first that is none", Check.with(line), Check.UNKNOWN, x -> x.owners(4));
        Check.test("16 owners: READINGS stay, when one is OWNED anew");
        OwnedThings x = told(line, 2, 3, 1);
        x.own(3, 2);
        Check.due("how many", x.many(4), 1);
        Check.due("of 3", x.owners(3), Check.set(2));
        Check.due("of 2", x.owners(2), Check.set(0, 1, 6));
    }

    private static void odds(String why, String text, int upper, int lower) {
        OwnedThings x = Check.with(text);
        Check.keeps("17 odds: upper: " + why, x, upper, Check.KEPT, y -> y.odds(0));
        Check.answers("17 odds: lower: " + why, x, lower, y -> y.odds(1));
    }

    private static void shares() {
        odds("of one REFERENCE", "o;pw,w0", 1, 1);
        odds("all: least terms", "o;pw;p0,w0,01", 1, 1);
        odds("all of twelve", Check.TWELVE, 1, 1);
        odds("none: 0 of 1", "o;pw;p0;p0;p0,w0,w1,w2,01", 0, 1);
        odds("one of two", "o;pw;p0,w1,01", 1, 2);
        odds("one of six", "o;pw;p0;pw,w0,01,w1,w2,02,20", 1, 6);
        odds("three of eight", Check.SIX, 3, 8);
        odds("one of twelve", "o;pw;p0;pw;pw;pw;pw,w0,01,w1,w2,w3,w4,w5,23,24,25,34,35", 1, 12);
        odds("two of twelve", "o;pw;p0;pw;pw;pw;pw,w0,01,w2,21,w3,w4,w5,34,35,43,45,53", 1, 6);
        odds("one of four", "o;pw;p0;pw,01,w1,02,20", 1, 4);
        odds("all of four", "o;pw;p0;pw,02,w0,20,w2", 1, 1);
        odds("three of four", "o;pw;p0;pw;pw,w2,23,31,01", 3, 4);
        odds("two of four", "o;pw;p0;pw,w2,21,w0,01", 1, 2);
        odds("one of three, the last", "o;pw;p0,w0,01,w1", 1, 3);
        odds("one of three, the first", "o;pw;p0,w1,w0,01", 1, 3);
    }

    private static void oddsRefused() {
        for (int which : new int[] {-1, 2, Check.LEAST, Check.MOST}) {
            Check.refused("17 odds: OUTSIDE: which " + which, Check.LOST, x -> x.odds(which));
        }
        for (int number = 0; number <= 1; number++) {
            int which = number;
            Check.keeps("17 odds: STATE: no REFERENCES, which " + which, Check.with("o;pw;pw"), Check.LOST, Check.KEPT, x -> x.odds(which));
            Check.keeps("17 odds: STATE: no THINGS, which " + which, new OwnedThings(), Check.LOST, Check.KEPT, x -> x.odds(which));
        }
        Check.test("17 odds: STATE: the last REFERENCE is cut");
        OwnedThings x = Check.with("o;pw,w0");
        x.refer(6, 0);
        Check.due("no references", x.odds(0), Check.LOST);
    }

    public static void main(String[] args) {
        numbers();
        readingsRefused();
        takenBack();
        allKinds();
        allOwners();
        shares();
        oddsRefused();
        Check.finish();
    }
}
