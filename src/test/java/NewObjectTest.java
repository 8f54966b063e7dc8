/** Promise 1: no things, no references, sheets have nothing. */
public final class NewObjectTest {
    private static void answers(String sentence, long want, Check.Call call) {
        Check.answers("1 a new object: " + sentence, new OwnedThings(), want, call);
    }

    private static void noThings() {
        answers("no things", 0, x -> x.many(0));
        answers("no references", 0, x -> x.many(1));
        answers("none is reached", 0, x -> x.many(2));
        answers("none is not lawful", 0, x -> x.many(3));
        answers("no readings", 0, x -> x.many(4));
        for (int number = -1; number <= 7; number++) {
            int t = number;
            for (int what = -1; what <= 11; what++) {
                int asked = what;
                answers("ofThing(" + t + ", " + asked + ")", Check.UNKNOWN, x -> x.ofThing(t, asked));
            }
            answers("refers(6, " + t + ")", Check.UNKNOWN, x -> x.refers(6, t));
            answers("place(6, " + t + ")", Check.UNKNOWN, x -> x.place(6, t));
            answers("refer(6, " + t + ")", Check.UNKNOWN, x -> x.refer(6, t));
            answers("own(" + t + ", 6)", Check.UNKNOWN, x -> x.own(t, 6));
            answers("hand(" + t + ", 1)", Check.UNKNOWN, x -> x.hand(t, 1));
            answers("past(" + t + ", -1)", Check.UNKNOWN, x -> x.past(t, -1));
            answers("reading(" + t + ", 1, 1)", Check.UNKNOWN, x -> x.reading(t, 1, 1));
            answers("kinds(" + t + ")", Check.UNKNOWN, x -> x.kinds(t));
            answers("owners(" + t + ")", Check.UNKNOWN, x -> x.owners(t));
            answers("tell(" + t + ")", Check.UNKNOWN, x -> x.tell(t));
            answers("hail(" + t + ")", Check.UNKNOWN, x -> x.hail(t));
            answers("as(" + t + ", 0)", Check.UNKNOWN, x -> x.as(t, 0));
        }
    }

    private static void nothingElse() {
        answers("unlawful()", Check.STATE, OwnedThings::unlawful);
        answers("odds(0)", Check.LOST, x -> x.odds(0));
        answers("odds(1)", Check.LOST, x -> x.odds(1));
        answers("back(0)", 0, x -> x.back(0));
        answers("back(1)", Check.OUTSIDE, x -> x.back(1));
        answers("trace() is 0 at first", 0, OwnedThings::trace);
        answers("fault() is 0 ahead of any", 0, OwnedThings::fault);
        for (int number = 0; number < 4; number++) {
            int k = number;
            answers("sheet " + k + " has nothing", 0, x -> x.lose(k));
            answers("sheet " + k + " has no cell", Check.NULL, x -> x.put(k, 0, 1));
            for (int lane = 0; lane <= 2; lane++) {
                int taken = lane;
                answers("sheet " + k + " has nothing in lane " + lane, Check.LOST, x -> x.cell(k, 0, taken));
                answers("sheet " + k + " has no text in lane " + lane, Check.NULL, x -> x.things(k, taken, 0, 0));
                answers("sheet " + k + " has no day in lane " + lane, Check.NULL, x -> x.day(k, taken, 0, 0, 0));
                answers("sheet " + k + " has no locks in lane " + lane, Check.NULL, x -> x.locks(k, taken, 0, 0));
            }
        }
    }

    private static void nothingIsShared() {
        Check.test("1 a new object: shares nothing with another one");
        OwnedThings full = Check.full();
        String before = Look.at(full);
        OwnedThings x = new OwnedThings();
        Check.due("things", x.many(0), 0);
        Check.due("sheet 0", x.lose(0), 0);
        Check.due("trace", x.trace(), 0);
        Check.tellText(x, "o;dw,w0");
        x.tell(0);
        Check.same("the other one", Look.at(full), before);
    }

    public static void main(String[] args) {
        noThings();
        nothingElse();
        nothingIsShared();
        Check.finish();
    }
}
