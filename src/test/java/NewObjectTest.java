/** Promise 1: no things, no references, sheets have nothing. */
public final class NewObjectTest {
    public static void main(String[] args) {
        OwnedThings x = new OwnedThings();
        Check.due("fault()", x.fault(), 0);
        Check.due("trace()", x.trace(), 0);
        for (int what = 0; what <= 4; what++) {
            Check.due("many(" + what + ")", x.many(what), 0);
        }
        for (int k = 0; k < 4; k++) {
            Check.due("put(" + k + ", 0, 1)", x.put(k, 0, 1), Check.NULL);
            Check.due("cell(" + k + ", 0, 0)", x.cell(k, 0, 0), OwnedThings.LOST);
            Check.due("lose(" + k + ")", x.lose(k), 0);
        }
        for (int t = -1; t <= 7; t++) {
            for (int what = -1; what <= 11; what++) {
                Check.due("ofThing(" + t + ", " + what + ")", x.ofThing(t, what), Check.UNKNOWN);
            }
            Check.due("refers(6, " + t + ")", x.refers(6, t), Check.UNKNOWN);
            Check.due("place(6, " + t + ")", x.place(6, t), Check.UNKNOWN);
            Check.due("refer(6, " + t + ")", x.refer(6, t), Check.UNKNOWN);
            Check.due("own(" + t + ", 6)", x.own(t, 6), Check.UNKNOWN);
        }
        Check.due("hand(0, 1)", x.hand(0, 1), Check.UNKNOWN);
        Check.due("unlawful()", x.unlawful(), Check.STATE);
        Check.due("past(0, -1)", x.past(0, -1), Check.UNKNOWN);
        Check.due("reading(0, 1, 1)", x.reading(0, 1, 1), Check.UNKNOWN);
        Check.due("back(0)", x.back(0), 0);
        Check.due("back(1)", x.back(1), Check.OUTSIDE);
        Check.due("kinds(0)", x.kinds(0), Check.UNKNOWN);
        Check.due("owners(0)", x.owners(0), Check.UNKNOWN);
        Check.due("odds(0)", x.odds(0), OwnedThings.LOST);
        Check.due("odds(1)", x.odds(1), OwnedThings.LOST);
        Check.row(x, 0, 0, 0, 0);
        Check.due("day without things", x.day(0, 2, 0, 1, 0), Check.STATE);
        Check.due("locks without things", x.locks(0, 2, 0, 1), Check.STATE);
        Check.due("locks of none without things", x.locks(0, 2, 0, 0), Check.STATE);
        Check.due("a new one has its own sheets", new OwnedThings().lose(0), 0);
        Check.finish();
    }
}
