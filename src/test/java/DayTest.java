/** Promise 9: days that are told. */
public final class DayTest {
    /** The day is laid as ints into sheet 2 of what has something of everything, then asked; nothing is changed. */
    private static void day(String sentence, int want, int what, int... row) {
        day(sentence, Check.full(), want, what, row);
    }

    private static void day(String sentence, OwnedThings x, int want, int what, int... row) {
        Check.row(x, 2, row);
        Check.keeps("9 day: " + sentence, x, want, 0, y -> y.day(2, 2, 0, row.length / 3, what));
    }

    private static void answers() {
        int[] row = {0, 6, 3, 1, 3, 6, 2, 2, 4, 0, 5, 3};
        day("how many REFERENCES there are then", 8, 0, row);
        day("no FIRST WRONG: NONE", Check.NONE, 1, row);
        day("THINGS that are not LAWFUL then", 0, 2, row);
        day("those that are REACHED then", 63, 3, row);
        day("the greatest LOCK then", 4, 4, row);
        int[] owners = {6, 0, 4, 6, 6, 4};
        for (int t = 0; t < 6; t++) {
            day("who OWNS " + t + " then", owners[t], 10 + t, row);
        }
        int[] none = {8, Check.NONE, 8, 63, 6};
        for (int what = 0; what <= 4; what++) {
            day("of no act, what " + what, none[what], what);
        }
        day("of no act, who OWNS 5", 4, 15);
        day("not LAWFUL then: several", Check.set(1, 2), 2, 0, 6, 1, 0, 6, 2, 1, 3, 6);
        day("not REACHED then", Check.set(3, 4, 5), 3, 0, 6, 0);
        day("none REACHED then", 0, 3, 0, 6, 0, 0, 6, 4);
        day("no REFERENCES then", Check.with("o;pw,w0"), 0, 0, 0, 6, 0);
        day("the greatest LOCK is the first one's", Check.with("o;dw;pw"), 2, 4);
        day("the greatest LOCK is the last one's", Check.with("o;pw;p0;d1"), 6, 4);
        day("of the only thing", Check.with("o;pw"), 1, 4);
    }

    private static void acts() {
        day("a REFERENCE is made", 9, 0, 0, 6, 3);
        day("a REFERENCE is cut", 7, 0, 0, 0, 1);
        day("a REFERENCE is made and cut", 8, 0, 0, 6, 3, 0, 6, 3);
        day("a REFERENCE is cut and made", 8, 0, 0, 0, 1, 0, 0, 1);
        day("a THING is OWNED", 2, 13, 1, 3, 2);
        day("a THING is OWNED by THE WORLD", 6, 13, 1, 3, 6);
        day("a THING is OWNED, its LOCK", 8, 4, 1, 0, 4);
        day("a THING is HANDED: who OWNS it", 4, 12, 2, 2, 4);
        day("a THING is HANDED: as many REFERENCES", 8, 0, 2, 2, 4);
        day("a THING is HANDED by THE WORLD", 4, 10, 2, 0, 4);
        day("a THING is HANDED to which THING 0 referred", 4, 11, 2, 1, 4);
        day("a THING that THING 0 OWNED is OWNED anew", 4, 11, 1, 1, 4);
        day("HANDED to THING 0", Check.with("o;pw;pw,w1"), 0, 11, 2, 1, 0);
        day("OWNED by THING 0", Check.with("o;pw;pw,w1"), 0, 11, 1, 1, 0);
        day("HANDED: what is REACHED then", 63, 3, 2, 0, 4);
        day("THING 0 is HANDED on", 3, 10, 2, 0, 4, 1, 3, 6, 0, 0, 3, 2, 0, 3);
        day("one of twelve is cut, another made", Check.with(Check.TWELVE), 12, 0, 0, 0, 1, 0, 6, 0);
        day("the twelfth is made", Check.with(Check.TWELVE.substring(0, 46)), 12, 0, 0, 6, 0);
    }

    private static void noSuchThingThen() {
        day("NONE: there is no such THING 2", Check.with("o;pw;p0"), Check.NONE, 12);
        day("NONE: there is no such THING 5", Check.with("o;pw;p0"), Check.NONE, 15, 0, 6, 0);
        day("who OWNS the last THING", Check.with("o;pw;p0"), 0, 11);
        day("FIRST WRONG, of no such THING", Check.with("o;pw;p0"), -100, 15, 0, 6, 6);
    }

    private static void firstWrong(String why, int want, int... row) {
        firstWrong(why, Check.SIX, want, row);
    }

    private static void firstWrong(String why, String text, int want, int... row) {
        day("FIRST WRONG: " + why, Check.with(text), want, 1, row);
        for (int what : new int[] {0, 2, 3, 4, 10, 15}) {
            day("FIRST WRONG, what " + what + ": " + why, Check.with(text), -100 - want, what, row);
        }
    }

    private static void wrongReferences() {
        firstWrong("a REFERENCE to THE WORLD", 0, 0, 0, 6);
        firstWrong("a REFERENCE to itself", 0, 0, 0, 0);
        firstWrong("a REFERENCE of THE WORLD to itself", 0, 0, 6, 6);
        firstWrong("a REFERENCE of no such one", 0, 0, 7, 0);
        firstWrong("a REFERENCE of -1", 0, 0, -1, 0);
        firstWrong("a REFERENCE to -1", 0, 0, 0, -1);
        firstWrong("a REFERENCE to 7", 0, 0, 0, 7);
        firstWrong("a REFERENCE of the least number", 0, 0, Check.LEAST, 0);
        firstWrong("a REFERENCE to the first that is none", "o;pw;pw", 0, 0, 0, 2);
        firstWrong("a REFERENCE of the first that is none", "o;pw;pw", 0, 0, 2, 0);
        firstWrong("a 13th", Check.TWELVE, 0, 0, 6, 0);
        firstWrong("a 13th then", Check.TWELVE, 2, 0, 0, 1, 0, 6, 0, 0, 6, 1);
    }

    private static void wrongOwners() {
        firstWrong("THE WORLD is OWNED", 0, 1, 6, 0);
        firstWrong("THE WORLD is OWNED by itself", 0, 1, 6, 6);
        firstWrong("no such THING is OWNED", 0, 1, -1, 0);
        firstWrong("OWNED by no such one", 0, 1, 0, 7);
        firstWrong("OWNED by the first that is none", "o;pw;pw", 0, 1, 0, 2);
        firstWrong("the first that is none is OWNED", "o;pw;pw", 0, 1, 2, 0);
        firstWrong("OWNED by itself", 0, 1, 0, 0);
        firstWrong("OWNED by one right UNDER it", 0, 1, 0, 1);
        firstWrong("OWNED by one far UNDER it", 0, 1, 0, 2);
        firstWrong("OWNED by one UNDER it then", 1, 1, 4, 3, 1, 0, 4);
    }

    private static void wrongHands() {
        firstWrong("HANDED to THE WORLD", 0, 2, 2, 6);
        firstWrong("THE WORLD is HANDED", 0, 2, 6, 0);
        firstWrong("no such THING is HANDED", 0, 2, 7, 0);
        firstWrong("HANDED to no such THING", 0, 2, 2, -1);
        firstWrong("HANDED to the first that is none", "o;pw;pw,w0", 0, 2, 0, 2);
        firstWrong("HANDED to itself", 0, 2, 2, 2);
        firstWrong("no REFERENCE to it", "o;pw;pw;pw,01", 0, 2, 2, 1);
        firstWrong("two REFERENCES to it", "o;pw;pw;pw,01,w1", 0, 2, 1, 2);
        firstWrong("three REFERENCES to it", 0, 2, 3, 4);
        firstWrong("the other one refers to it already", 0, 2, 2, 1);
        firstWrong("HANDED to one UNDER it", 0, 2, 1, 2);
        firstWrong("HANDED to one UNDER it then", 1, 1, 4, 1, 2, 1, 4);
        firstWrong("HANDED twice to the same", 1, 2, 2, 4, 2, 2, 4);
        firstWrong("two REFERENCES to it then", 1, 0, 6, 2, 2, 2, 4);
    }

    private static void theFirstOfSeveral() {
        firstWrong("the first of several", 2, 0, 6, 3, 0, 6, 3, 1, 6, 6, 0, 6, 6);
        firstWrong("the last of three", 2, 0, 6, 3, 0, 6, 3, 2, 0, 6);
        int[] row = new int[60];
        for (int act = 0; act < 20; act++) {
            row[3 * act + 1] = 6;
        }
        day("twenty acts", Check.with("o;pw;p0"), 0, 0, row);
        row[58] = 0;
        day("the twentieth is wrong", Check.with("o;pw;p0"), 19, 1, row);
        day("the twentieth is wrong: -100 less it", Check.with("o;pw;p0"), -119, 0, row);
        Check.test("9 day: acts behind n are not told");
        OwnedThings x = Check.with("o;pw;p0");
        Check.row(x, 2, 0, 6, 0, 0, 6, 6);
        Check.due("the first alone", x.day(2, 2, 0, 1, 1), Check.NONE);
        Check.due("both", x.day(2, 2, 0, 2, 1), 1);
        Check.due("the second alone", x.day(2, 2, 3, 1, 1), 0);
    }

    private static void refused() {
        for (int k : new int[] {-1, 4, Check.LEAST, Check.MOST}) {
            Check.refusedFaultless("9 day: UNKNOWN: sheet " + k, Check.UNKNOWN, x -> x.day(k, 2, 0, 0, 0));
        }
        for (int lane : new int[] {-1, 3, Check.LEAST, Check.MOST}) {
            Check.refusedFaultless("9 day: OUTSIDE: lane " + lane, Check.OUTSIDE, x -> x.day(2, lane, 0, 0, 0));
        }
        for (int n : new int[] {-1, 21, Check.LEAST, Check.MOST, 1 << 30}) {
            Check.refusedFaultless("9 day: OUTSIDE: n " + n, Check.OUTSIDE, x -> x.day(2, 2, 0, n, 0));
        }
        for (int what : new int[] {-1, 5, 9, 16, Check.LEAST, Check.MOST}) {
            Check.refusedFaultless("9 day: OUTSIDE: what " + what, Check.OUTSIDE, x -> x.day(2, 2, 0, 0, what));
        }
        Check.refusedFaultless("9 day: UNKNOWN ahead of OUTSIDE", Check.UNKNOWN, x -> x.day(4, 3, 0, 21, 5));
        Check.refusedFaultless("9 day: OUTSIDE: lane ahead of NULL", Check.OUTSIDE, x -> x.day(3, 3, 0, 0, 0));
        Check.refusedFaultless("9 day: OUTSIDE: n ahead of CAST", Check.OUTSIDE, x -> x.day(0, 2, 0, 21, 0));
        Check.refusedFaultless("9 day: OUTSIDE: what ahead of INDEX", Check.OUTSIDE, x -> x.day(2, 2, 9, 0, 5));
    }

    private static void faults() {
        for (int lane = 0; lane <= 2; lane++) {
            int taken = lane;
            Check.faulted("9 day: nothing is no CAST, lane " + lane, Check.NULL, x -> x.day(3, taken, 0, 0, 0));
            for (int k = 0; k <= 2; k++) {
                int sheet = k;
                if (k != lane) {
                    Check.faulted("9 day: CAST: sheet " + k + " as lane " + lane, Check.CAST, x -> x.day(sheet, taken, 0, 0, 0));
                }
            }
        }
        Check.faulted("9 day: NULL ahead of INDEX", Check.NULL, x -> x.day(3, 2, -1, 1, 0));
        Check.faulted("9 day: CAST ahead of INDEX", Check.CAST, x -> x.day(2, 0, 9, 1, 0));
        Check.faulted("9 day: INDEX: i below 0", Check.INDEX, x -> x.day(2, 2, -1, 1, 0));
        Check.faulted("9 day: INDEX: the least i", Check.INDEX, x -> x.day(2, 2, Check.LEAST, 1, 0));
        Check.faulted("9 day: INDEX: one cell too many", Check.INDEX, x -> x.day(2, 2, 4, 1, 0));
        Check.faulted("9 day: INDEX: three cells too many", Check.INDEX, x -> x.day(2, 2, 0, 3, 0));
        Check.faulted("9 day: INDEX: i wraps", Check.INDEX, x -> x.day(2, 2, Check.MOST, 1, 0));
        Check.faulted("9 day: INDEX: none, from -1 on", Check.INDEX, x -> x.day(2, 2, -1, 0, 0));
        Check.faulted("9 day: INDEX: none, from beyond on", Check.INDEX, x -> x.day(2, 2, 7, 0, 0));
        Check.keeps("9 day: none, from the end on", Check.full(), 8, 0, x -> x.day(2, 2, 6, 0, 0));
        day("up to the end", 7, 0, 0, 6, 0);
    }

    private static OwnedThings withoutThings() {
        OwnedThings x = new OwnedThings();
        Check.row(x, 2, 3, 0, 0);
        return x;
    }

    private static void stateAndSorts() {
        Check.keeps("9 day: STATE: there are no THINGS", withoutThings(), Check.STATE, 0, x -> x.day(2, 2, 0, 0, 0));
        Check.keeps("9 day: STATE ahead of the sort", withoutThings(), Check.STATE, 0, x -> x.day(2, 2, 0, 1, 1));
        Check.keeps("9 day: NULL ahead of STATE", withoutThings(), Check.NULL, 1, x -> x.day(3, 2, 0, 0, 0));
        Check.keeps("9 day: CAST ahead of STATE", withoutThings(), Check.CAST, 2, x -> x.day(2, 1, 0, 0, 0));
        Check.keeps("9 day: INDEX ahead of STATE", withoutThings(), Check.INDEX, 3, x -> x.day(2, 2, 1, 1, 0));
        Check.keeps("9 day: OUTSIDE: what ahead of STATE", withoutThings(), Check.OUTSIDE, 0, x -> x.day(2, 2, 0, 0, 5));
        for (int sort : new int[] {-1, 3, 6, Check.LEAST, Check.MOST}) {
            for (int what : new int[] {0, 1, 2, 3, 4, 10}) {
                day("OUTSIDE: a sort is " + sort + ", what " + what, Check.OUTSIDE, what, sort, 0, 1);
            }
        }
        day("OUTSIDE: the last sort", Check.OUTSIDE, 0, 0, 6, 3, 1, 3, 6, 3, 0, 0);
        day("OUTSIDE: the sort ahead of what is wrong", Check.OUTSIDE, 1, 0, 6, 6, -1, 0, 1);
        Check.test("9 day: a sort behind n is not seen");
        OwnedThings x = Check.full();
        Check.row(x, 2, 0, 6, 3, 3, 0, 1);
        Check.due("one", x.day(2, 2, 0, 1, 1), Check.NONE);
        Check.due("two", x.day(2, 2, 0, 2, 1), Check.OUTSIDE);
        Check.due("none", x.day(2, 2, 3, 0, 1), Check.NONE);
    }

    private static void lanes() {
        for (int number = 0; number <= 2; number++) {
            int lane = number;
            OwnedThings x = Check.with(Check.SIX);
            Check.lay(x, 1, lane, 9, 9, 0, 6, 0, 9);
            Check.answers("9 day: of lane " + lane + ", from the middle on", x, Check.set(3, 4, 5), y -> y.day(1, lane, 2, 1, 3));
            Check.lay(x, 1, lane, 65536 + 1, 3, 6);
            int owner = lane == 2 ? Check.OUTSIDE : 6;
            Check.answers("9 day: a sort cut to lane " + lane, x, owner, y -> y.day(1, lane, 0, 1, 13));
        }
    }

    public static void main(String[] args) {
        answers();
        acts();
        noSuchThingThen();
        wrongReferences();
        wrongOwners();
        wrongHands();
        theFirstOfSeveral();
        refused();
        faults();
        stateAndSorts();
        lanes();
        Check.finish();
    }
}
