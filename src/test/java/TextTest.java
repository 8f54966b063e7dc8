/** Promise 2: things told by a text. */
public final class TextTest {
    private static void text(String text, int want) {
        Check.due("things of " + text, Check.tellText(new OwnedThings(), text), want);
    }

    private static void taken() {
        text("o;pw", 1);
        text("o;gw;d0", 2);
        text("o;pw;pw;p1;p0;p3;p4", 6);
        text("o;pw,w0", 1);
        text(Check.SIX, 6);
        text("o;pw;pw;pw;pw,01,02,03,10,12,13,20,21,23,30,31,32", 4);
        text("o;pw;pw;pw;pw;pw;pw,w0,w1,w2,w3,w4,w5,01,02,03,04,05,10", 6);
    }

    private static void firstFaults() {
        text("", -100);
        text("O", -100);
        text(";pw", -100);
        text("opw", -101);
        text("o;pww0", -104);
        text("o", -101);
        text("o,", -101);
        text("o;", -102);
        text("o;x", -102);
        text("o;w", -102);
        text("o;p", -103);
        text("o;p0", -103);
        text("o;p6", -103);
        text("o;pw;p1", -106);
        text("o;pw;p/", -106);
        text("o;pw;p:", -106);
        text("o;pw;", -105);
        text("o;pwx", -104);
        text("o;pw;pw;pw;pw;pw;pw;pw", -119);
    }

    private static void firstFaultsOfReferences() {
        text("o;pw,", -105);
        text("o;pw,w", -106);
        text("o;pw,x", -105);
        text("o;pw,1", -105);
        text("o;pw,6", -105);
        text("o;pw,0", -106);
        text("o;pw,00", -106);
        text("o;pw,ww", -106);
        text("o;pw,w1", -106);
        text("o;pw,w6", -106);
        text("o;pw,w0;", -107);
        text("o;pw,w0;pw", -107);
        text("o;pw,w0,w0", -109);
        text("o;pw,w0,00", -109);
        text("o;pw;pw,01,10,01", -115);
        text("o;pw;pw;pw;pw,01,02,03,10,12,13,20,21,23,30,31,32,", -149);
        text("o;pw;pw;pw;pw,01,02,03,10,12,13,20,21,23,30,31,32,w0", -149);
        text("o;pw;pw;pw;pw,01,02,03,10,12,13,20,21,23,30,31,32x", -149);
    }

    private static void refusedOrFaulty() {
        OwnedThings x = new OwnedThings();
        Check.due("no such sheet", x.things(-1, 0, 0, 0), Check.UNKNOWN);
        Check.due("no such sheet", x.things(4, 3, 0, 0), Check.UNKNOWN);
        Check.due("no such lane", x.things(0, 3, 0, -1), Check.OUTSIDE);
        Check.due("no such lane", x.things(0, -1, 0, 0), Check.OUTSIDE);
        Check.due("nothing", x.things(0, 0, 0, -1), Check.NULL);
        Check.due("fault of nothing", x.fault(), 1);
        x.sheet(0, 1, 4);
        Check.due("another lane", x.things(0, 0, 9, -1), Check.CAST);
        Check.due("fault of another lane", x.fault(), 2);
        Check.due("below 0", x.things(0, 1, 9, -1), Check.SIZE);
        Check.due("fault of below 0", x.fault(), 4);
        Check.due("lowest length", x.things(0, 1, 0, Integer.MIN_VALUE), Check.SIZE);
        Check.due("too far", x.things(0, 1, 1, 4), Check.INDEX);
        Check.due("fault of too far", x.fault(), 3);
        Check.due("from below 0", x.things(0, 1, -1, 1), Check.INDEX);
        Check.due("sum wraps", x.things(0, 1, 1, Integer.MAX_VALUE), Check.INDEX);
        Check.due("start wraps", x.things(0, 1, Integer.MAX_VALUE, 1), Check.INDEX);
        Check.due("none of them, too far", x.things(0, 1, 5, 0), Check.INDEX);
        Check.due("none of them, at the end", x.things(0, 1, 4, 0), -100);
        Check.due("fault of a text", x.fault(), 0);
        Check.due("zeros", x.things(0, 1, 0, 4), -100);
    }

    private static void fromTheMiddleAndOtherLanes() {
        OwnedThings x = new OwnedThings();
        for (int lane = 0; lane <= 2; lane++) {
            x.sheet(0, lane, 9);
            String text = "xxo;pw;g0";
            for (int i = 0; i < text.length(); i++) {
                x.put(0, i, text.charAt(i));
            }
            Check.due("one of lane " + lane, x.things(0, lane, 2, 4), 1);
            Check.due("two of lane " + lane, x.things(0, lane, 2, 7), 2);
            Check.due("cut off in lane " + lane, x.things(0, lane, 2, 6), -106);
            Check.due("place counts from i in lane " + lane, x.things(0, lane, 1, 5), -100);
        }
        x.put(0, 2, 111 + 65536);
        Check.due("an int is not cut", x.things(0, 2, 2, 4), -100);
        x.put(0, 2, -1);
        Check.due("no code", x.things(0, 2, 2, 4), -100);
        x.put(0, 2, 111);
        x.put(0, 5, Integer.MIN_VALUE);
        Check.due("no owner", x.things(0, 2, 2, 4), -103);
    }

    private static void makesAllAnew() {
        OwnedThings x = Check.with(Check.SIX);
        x.tell(1);
        x.reading(0, 1, 1);
        int trace = x.trace();
        Check.due("a refused text", Check.tellText(x, "o;pw,w0,00"), -109);
        Check.due("things stay", x.many(0), 6);
        Check.due("references stay", x.many(1), 8);
        Check.due("readings stay", x.many(4), 1);
        x.sheet(1, 2, 3);
        Check.due("a taken text", Check.tellText(x, "o;dw,w0"), 1);
        Check.due("things anew", x.many(0), 1);
        Check.due("references anew", x.many(1), 1);
        Check.due("no readings", x.many(4), 0);
        Check.due("kind anew", x.ofThing(0, 0), 2);
        Check.due("no owner of old", x.ofThing(1, 1), Check.UNKNOWN);
        Check.due("trace stays", x.trace(), trace);
        Check.due("sheets stay", x.cell(1, 2, 2), 0);
        Check.due("the text stays", x.cell(3, 0, 0), 'o');
    }

    public static void main(String[] args) {
        taken();
        firstFaults();
        firstFaultsOfReferences();
        refusedOrFaulty();
        fromTheMiddleAndOtherLanes();
        makesAllAnew();
        Check.finish();
    }
}
