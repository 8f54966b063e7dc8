/** Promise 9: days that are told. */
public final class DayTest {
    private static int day(OwnedThings x, int what, int... row) {
        Check.row(x, 1, row);
        return x.day(1, 2, 0, row.length / 3, what);
    }

    private static void answers() {
        OwnedThings x = Check.with(Check.SIX);
        int[] row = {0, 6, 3, 1, 3, 6, 2, 2, 4, 0, 5, 3};
        Check.due("references", day(x, 0, row), 8);
        Check.due("first wrong", day(x, 1, row), Check.NONE);
        Check.due("not lawful", day(x, 2, row), 0);
        Check.due("reached", day(x, 3, row), 63);
        Check.due("greatest lock", day(x, 4, row), 4);
        Check.due("owner of 2", day(x, 12, row), 4);
        Check.due("owner of 3", day(x, 13, row), 6);
        Check.due("nothing is changed", x.many(1), 8);
        Check.due("nothing is changed", x.unlawful(), 8);
        Check.due("nothing is changed", x.ofThing(2, 1), 1);
        Check.due("no act", day(x, 2), 8);
        Check.due("no act, first wrong", day(x, 1), Check.NONE);
        Check.due("cut off", day(x, 3, 0, 6, 0), Check.set(3, 4, 5));
        Check.due("thing 0 handed", day(x, 10, 2, 0, 4), 4);
        Check.due("a reference of thing 0 handed", day(x, 11, 2, 1, 4), 4);
        Check.due("the world's reference handed", day(x, 3, 2, 0, 4), 63);
        Check.due("the greatest lock is that of 0", day(Check.with("o;dw;pw"), 4), 2);
        OwnedThings y = Check.with("o;pw;p0");
        Check.due("no such thing then", day(y, 12), Check.NONE);
        Check.due("no such thing then", day(y, 15, 0, 6, 0), Check.NONE);
        Check.due("of a wrong day", day(y, 15, 0, 6, 6), -100);
    }

    private static void firstWrong(String why, OwnedThings x, int want, int... row) {
        Check.due("first wrong: " + why, day(x, 1, row), want);
        for (int what : new int[] {0, 2, 3, 4, 10, 15}) {
            Check.due("answer " + what + ": " + why, day(x, what, row), -100 - want);
        }
    }

    private static void wrongActs() {
        OwnedThings x = Check.with(Check.SIX);
        firstWrong("to the world", x, 0, 0, 0, 6);
        firstWrong("both the same", x, 0, 0, 0, 0);
        firstWrong("no such one", x, 0, 0, 7, 0);
        firstWrong("no such one", x, 1, 0, 6, 3, 0, -1, 0);
        firstWrong("the world owned", x, 0, 1, 6, 0);
        firstWrong("owned by one under it", x, 0, 1, 0, 2);
        firstWrong("owned by itself", x, 0, 1, 0, 0);
        firstWrong("owned by one under it then", x, 1, 1, 4, 3, 1, 0, 4);
        firstWrong("handed to the world", x, 0, 2, 2, 6);
        firstWrong("handed to itself", x, 0, 2, 2, 2);
        firstWrong("two references to it", x, 0, 2, 3, 4);
        firstWrong("refers to it already", x, 0, 2, 2, 1);
        firstWrong("handed to one under it", x, 0, 2, 1, 2);
        firstWrong("handed twice", x, 1, 2, 2, 4, 2, 2, 4);
        firstWrong("only the first tells", x, 2, 0, 6, 3, 0, 6, 3, 1, 6, 6, 0, 6, 6);
        OwnedThings full = Check.with("o;pw;pw;pw;pw,01,02,03,10,12,13,20,21,23,30,31,32");
        firstWrong("a 13th", full, 0, 0, 6, 0);
        firstWrong("a 13th then", full, 2, 0, 0, 1, 0, 6, 0, 0, 6, 1);
    }

    private static void refusals() {
        OwnedThings x = Check.with(Check.SIX);
        Check.row(x, 1, 0, 6, 3, 3, 0, 1);
        Check.due("no such sheet", x.day(4, 3, 0, 0, 0), Check.UNKNOWN);
        Check.due("no such lane", x.day(1, 3, 0, 0, 0), Check.OUTSIDE);
        Check.due("n below 0", x.day(1, 2, 0, -1, 0), Check.OUTSIDE);
        Check.due("n above 20", x.day(1, 2, 0, 21, 0), Check.OUTSIDE);
        for (int what : new int[] {-1, 5, 9, 16}) {
            Check.due("what " + what, x.day(1, 2, 0, 1, what), Check.OUTSIDE);
        }
        Check.due("a refusal is no fault", x.fault(), 0);
        Check.due("nothing", x.day(0, 2, 0, 1, 0), Check.NULL);
        Check.due("fault", x.fault(), 1);
        Check.due("another lane", x.day(1, 0, 9, 1, 0), Check.CAST);
        Check.due("fault", x.fault(), 2);
        Check.due("too far", x.day(1, 2, 4, 1, 0), Check.INDEX);
        Check.due("fault", x.fault(), 3);
        Check.due("from below 0", x.day(1, 2, -1, 1, 0), Check.INDEX);
        Check.due("none, too far", x.day(1, 2, 7, 0, 0), Check.INDEX);
        Check.due("none, at the end", x.day(1, 2, 6, 0, 0), 8);
        Check.due("a sort beyond 2", x.day(1, 2, 0, 2, 1), Check.OUTSIDE);
        Check.due("a sort beyond n is not seen", x.day(1, 2, 0, 1, 1), Check.NONE);
        Check.due("from the middle", x.day(1, 2, 2, 1, 0), Check.OUTSIDE);
        Check.row(x, 1, 0, 6, 6, -1, 0, 1);
        Check.due("a sort ahead of what is wrong", x.day(1, 2, 0, 2, 1), Check.OUTSIDE);
        OwnedThings y = new OwnedThings();
        Check.row(y, 1, 7, 0, 0);
        Check.due("no things ahead of the sort", y.day(1, 2, 0, 1, 0), Check.STATE);
        Check.due("a fault ahead of no things", y.day(1, 2, 1, 1, 0), Check.INDEX);
    }

    private static void aLongDay() {
        OwnedThings x = Check.with("o;pw;p0");
        int[] row = new int[60];
        for (int act = 0; act < 20; act++) {
            row[3 * act + 1] = 6;
        }
        Check.due("twenty acts", day(x, 0, row), 0);
        row[58] = 0;
        Check.due("the twentieth is wrong", day(x, 1, row), 19);
        Check.due("the twentieth is wrong", day(x, 0, row), -119);
        x.sheet(0, 0, 4);
        x.put(0, 2, 6);
        Check.due("bytes, from the middle", x.day(0, 0, 1, 1, 3), 1);
    }

    public static void main(String[] args) {
        answers();
        wrongActs();
        refusals();
        aLongDay();
        Check.finish();
    }
}
