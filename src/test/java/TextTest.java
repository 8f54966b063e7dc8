/** Promise 2: things told by a text. */
public final class TextTest {
    private static final String SIX_THINGS = "o;pw;pw;pw;pw;pw;pw";
    private static final String LETTERS = "pgd";

    /** A text that is taken, ahead of which there is something of everything. */
    private static void taken(String why, String text) {
        Check.test("2 things: taken: " + why);
        OwnedThings x = Check.full();
        int trace = x.trace();
        int count = 0;
        while (4 + 3 * count <= text.length() && text.charAt(1 + 3 * count) == ';') {
            count++;
        }
        int references = (text.length() - 1) / 3 - count;
        Check.due("things " + text, Check.tellText(x, text), count);
        Check.due("how many things", x.many(0), count);
        Check.due("how many references", x.many(1), references);
        Check.due("no readings", x.many(4), 0);
        Check.due("trace", x.trace(), trace);
        for (int t = 0; t < count; t++) {
            Check.due("kind of " + t, x.ofThing(t, 0), LETTERS.indexOf(text.charAt(2 + 3 * t)));
            Check.due("owner of " + t, x.ofThing(t, 1), one(text.charAt(3 + 3 * t)));
        }
        for (int r = 0; r < references; r++) {
            int at = 2 + 3 * count + 3 * r;
            Check.due("place of " + r, x.place(one(text.charAt(at)), one(text.charAt(at + 1))), r);
        }
    }

    private static int one(char code) {
        return code == 'w' ? 6 : code - '0';
    }

    /** A text that is not taken: it changes nothing, and names no fault. */
    private static void first(String why, int place, String text) {
        OwnedThings x = Check.full();
        byLane(x, 0, text);
        String sentence = "2 things: FIRST FAULT: " + why + ": " + text;
        Check.keeps(sentence, x, -100 - place, 0, y -> y.things(3, 0, 0, text.length()));
    }

    private static void byLane(OwnedThings x, int lane, String text) {
        x.sheet(3, lane, text.length());
        for (int i = 0; i < text.length(); i++) {
            x.put(3, i, text.charAt(i));
        }
    }

    private static void takenOnes() {
        taken("one plain thing", "o;pw");
        taken("one guarded thing", "o;gw");
        taken("one double thing", "o;dw");
        taken("owned by one told ahead", "o;gw;d0");
        taken("six things", "o;pw;pw;p1;p0;p3;p4");
        taken("the sixth owned by the fifth", "o;pw;pw;pw;pw;pw;p4");
        taken("one reference", "o;pw,w0");
        taken("there and back", "o;pw;pw,01,10");
        taken("round three things", "o;pw;pw;pw,01,12,20");
        taken("to one told behind", "o;pw;pw;pw;pw;pw;pw,05,50,w5");
        taken("eleven references", Check.TWELVE.substring(0, 46));
        taken("twelve references", Check.TWELVE);
        taken("the longest text", SIX_THINGS + ",w0,w1,w2,w3,w4,w5,01,02,03,04,05,10");
        taken("things and references", Check.SIX);
    }

    private static void firstOfBegin() {
        first("nothing told", 0, "");
        first("no o", 0, ";pw");
        first("a code below o", 0, "n;pw");
        first("a code above o", 0, "p;pw");
        first("a capital", 0, "O;pw");
        first("ends behind o", 1, "o");
        first("no things, a reference", 1, "o,");
        first("a code below ;", 1, "o:pw");
        first("a code above ;", 1, "o<pw");
        first("no ;", 1, "opw");
    }

    private static void firstOfThings() {
        first("ends behind ;", 2, "o;");
        for (char code : "cefhoqwPGD".toCharArray()) {
            first("no kind " + code, 2, "o;" + code + "w");
        }
        first("ends behind a kind", 3, "o;p");
        first("the first is owned by none told ahead", 3, "o;p0");
        first("a code below w", 3, "o;pv");
        first("a code above w", 3, "o;px");
        first("the world is no digit", 3, "o;p6");
        first("ends behind the second ;", 5, "o;pw;");
        first("ends behind the second kind", 6, "o;pw;p");
        first("owned by itself", 6, "o;pw;p1");
        first("owned by one told behind", 6, "o;pw;p2;pw");
        first("a code below the digits", 6, "o;pw;p/");
        first("a code above the digits", 6, "o;pw;p:");
        first("the sixth owned by itself", 18, "o;pw;pw;pw;pw;pw;p5");
        first("the sixth owned by 6", 18, "o;pw;pw;pw;pw;pw;p6");
        first("no ; behind a thing", 4, "o;pwp");
        first("a second owner", 4, "o;pww");
        first("a code below ,", 4, "o;pw+w0");
        first("a code above ,", 4, "o;pw-w0");
        first("the ; of a seventh thing", 19, SIX_THINGS + ";pw");
        first("the ; of a seventh thing, just told", 19, SIX_THINGS + ";");
        first("no code behind six things", 19, SIX_THINGS + "w");
    }

    private static void firstOfReferences() {
        first("ends behind ,", 5, "o;pw,");
        first("whose is no thing", 5, "o;pw,10");
        first("whose is a code below the digits", 5, "o;pw,/0");
        first("whose is a code below w", 5, "o;pw,v0");
        first("whose is a code above w", 5, "o;pw,x0");
        first("the world is no digit", 5, "o;pw,60");
        first("the world is no digit of seven", 20, SIX_THINGS + ",60");
        first("ends behind whose", 6, "o;pw,w");
        first("ends behind whose, which can refer to none", 6, "o;pw,0");
        first("to no thing", 6, "o;pw,w1");
        first("to the first that is none", 21, SIX_THINGS + ",w6");
        first("to the world", 6, "o;pw,0w");
        first("of the world to the world", 6, "o;pw,ww");
        first("to a code below the digits", 6, "o;pw,w/");
        first("to itself", 6, "o;pw,00");
        first("the fifth to itself", 21, SIX_THINGS + ",55");
        first("told ahead", 9, "o;pw,w0,w0");
        first("told long ahead", 15, "o;pw;pw,01,10,01");
        first("the last one told ahead", 18, "o;pw;pw,w0,w1,01,01");
        first("ends ahead of the digit of what was told ahead", 9, "o;pw,w0,w");
        first("no , behind a reference", 7, "o;pw,w00");
        first("a thing behind a reference", 7, "o;pw,w0;pw");
        first("a ; behind a reference", 7, "o;pw,w0;");
        first("the comma of a 13th", 49, Check.TWELVE + ",w0");
        first("the comma of a 13th, just told", 49, Check.TWELVE + ",");
        first("the comma of a 13th that was told ahead", 49, Check.TWELVE + ",01");
        first("no code behind twelve", 49, Check.TWELVE + "x");
        first("the twelfth was told ahead", 48, Check.TWELVE.substring(0, 46) + ",01");
    }

    /** With rows of numbers that are no codes, though their lowest bytes are. */
    private static void lanes() {
        for (int number = 0; number <= 2; number++) {
            int lane = number;
            OwnedThings x = new OwnedThings();
            byLane(x, lane, "xxo;pw;g0");
            String of = "2 things: lane " + lane + ": ";
            Check.answers(of + "from the middle on", x, 1, y -> y.things(3, lane, 2, 4));
            Check.answers(of + "up to the end", x, 2, y -> y.things(3, lane, 2, 7));
            Check.answers(of + "cells behind n are not looked at", x, -106, y -> y.things(3, lane, 2, 6));
            Check.answers(of + "places count from i on", x, -102, y -> y.things(3, lane, 2, 2));
            Check.answers(of + "no codes ahead of i", x, -100, y -> y.things(3, lane, 1, 5));
        }
        codeOfLane(0, 111 + 256, 1);
        codeOfLane(1, 111 + 256, -100);
        codeOfLane(1, 111 + 65536, 1);
        codeOfLane(2, 111 + 256, -100);
        codeOfLane(2, 111 + 65536, -100);
        codeOfLane(2, -1, -100);
        codeOfLane(2, Check.LEAST, -100);
        codeOfLane(2, Check.MOST, -100);
        OwnedThings y = new OwnedThings();
        byLane(y, 2, "o;pw");
        for (int number : new int[] {-1, Check.LEAST, Check.MOST, 48, 119 + 256}) {
            y.put(3, 3, number);
            Check.answers("2 things: no owner " + number, y, -103, z -> z.things(3, 2, 0, 4));
        }
    }

    private static void codeOfLane(int lane, int code, int want) {
        OwnedThings x = new OwnedThings();
        byLane(x, lane, "o;pw");
        x.put(3, 0, code);
        Check.answers("2 things: " + code + " in lane " + lane, x, want, y -> y.things(3, lane, 0, 4));
    }

    private static void aRowOfSixty() {
        Check.test("2 things: a text in a row of 60 cells");
        String text = SIX_THINGS + ",w0,w1,w2,w3,w4,w5,01,02,03,04,05,10";
        OwnedThings x = new OwnedThings();
        x.sheet(0, 2, 60);
        for (int i = 0; i < text.length(); i++) {
            x.put(0, i + 5, text.charAt(i));
        }
        Check.due("the last 55 cells", x.things(0, 2, 5, 55), 6);
        Check.due("one more", x.things(0, 2, 4, 56), -100);
        x.copy(0, 5, 0, 0, 55);
        x.put(0, 55, 0);
        Check.due("a cell of 0 behind it", x.things(0, 2, 0, 56), -155);
        Check.due("all 60", x.things(0, 2, 0, 60), -155);
    }

    private static void refused() {
        for (int k : new int[] {-1, 4, Check.LEAST, Check.MOST}) {
            Check.refusedFaultless("2 things: UNKNOWN: sheet " + k, Check.UNKNOWN, x -> x.things(k, 0, 0, 0));
        }
        for (int lane : new int[] {-1, 3, Check.LEAST, Check.MOST}) {
            Check.refusedFaultless("2 things: OUTSIDE: lane " + lane, Check.OUTSIDE, x -> x.things(0, lane, 0, 0));
        }
        Check.refusedFaultless("2 things: UNKNOWN ahead of OUTSIDE", Check.UNKNOWN, x -> x.things(4, 3, 0, -1));
        Check.refusedFaultless("2 things: OUTSIDE ahead of NULL", Check.OUTSIDE, x -> x.things(3, 3, 0, -1));
        Check.refusedFaultless("2 things: OUTSIDE ahead of SIZE", Check.OUTSIDE, x -> x.things(0, 3, 0, -1));
    }

    private static void faults() {
        for (int lane = 0; lane <= 2; lane++) {
            int taken = lane;
            Check.faulted("2 things: nothing is no CAST, lane " + lane, Check.NULL, x -> x.things(3, taken, 0, 0));
            for (int k = 0; k <= 2; k++) {
                int sheet = k;
                if (k != lane) {
                    Check.faulted("2 things: CAST: sheet " + k + " as lane " + lane, Check.CAST, x -> x.things(sheet, taken, 0, 1));
                }
            }
        }
        Check.faulted("2 things: NULL ahead of SIZE", Check.NULL, x -> x.things(3, 0, 0, -1));
        Check.faulted("2 things: NULL ahead of INDEX", Check.NULL, x -> x.things(3, 0, -1, 9));
        Check.faulted("2 things: CAST ahead of SIZE", Check.CAST, x -> x.things(0, 1, 0, -1));
        Check.faulted("2 things: CAST ahead of INDEX", Check.CAST, x -> x.things(0, 1, -1, 9));
        Check.faulted("2 things: SIZE: n -1", Check.SIZE, x -> x.things(0, 0, 0, -1));
        Check.faulted("2 things: SIZE: the least n", Check.SIZE, x -> x.things(0, 0, 0, Check.LEAST));
        Check.faulted("2 things: SIZE ahead of INDEX", Check.SIZE, x -> x.things(0, 0, 9, -1));
        Check.faulted("2 things: INDEX: i below 0", Check.INDEX, x -> x.things(0, 0, -1, 1));
        Check.faulted("2 things: INDEX: the least i", Check.INDEX, x -> x.things(0, 0, Check.LEAST, 1));
        Check.faulted("2 things: INDEX: one cell too many", Check.INDEX, x -> x.things(0, 0, 1, 4));
        Check.faulted("2 things: INDEX: all and one more", Check.INDEX, x -> x.things(0, 0, 0, 5));
        Check.faulted("2 things: INDEX: from behind the last on", Check.INDEX, x -> x.things(0, 0, 4, 1));
        Check.faulted("2 things: INDEX: i and n wrap", Check.INDEX, x -> x.things(0, 0, 1, Check.MOST));
        Check.faulted("2 things: INDEX: n and i wrap", Check.INDEX, x -> x.things(0, 0, Check.MOST, 1));
        Check.faulted("2 things: INDEX: both wrap", Check.INDEX, x -> x.things(0, 0, Check.MOST, Check.MOST));
        Check.faulted("2 things: INDEX: none, from -1 on", Check.INDEX, x -> x.things(0, 0, -1, 0));
        Check.faulted("2 things: INDEX: none, from beyond on", Check.INDEX, x -> x.things(0, 0, 5, 0));
        Check.keeps("2 things: none, from the end on", Check.full(), -100, 0, x -> x.things(0, 0, 4, 0));
        Check.keeps("2 things: none, from the begin on", Check.full(), -100, 0, x -> x.things(0, 0, 0, 0));
    }

    private static void makesAllAnew() {
        Check.test("2 things: a text makes all anew, but for the sheets and trace");
        OwnedThings x = Check.full();
        int trace = x.trace();
        Check.due("things", Check.tellText(x, "o;dw,w0"), 1);
        Check.due("no thing of old", x.ofThing(1, 1), Check.UNKNOWN);
        Check.due("no reading of old", x.kinds(0), 7);
        Check.due("trace stays", x.trace(), trace);
        Check.due("bytes stay", x.cell(0, 1, 0), -7);
        Check.due("shorts stay", x.cell(1, 1, 1), -300);
        Check.due("ints stay", x.cell(2, 5, 2), 6);
        Check.due("the text stays", x.cell(3, 0, 0), 'o');
        Check.test("2 things: a taken text comes to no fault");
        x.as(0, 3);
        x.put(0, -1, 0);
        x.sheet(0, 0, -1);
        Check.due("things", x.things(3, 0, 0, 7), 1);
        Check.due("fault", x.fault(), 0);
        Check.test("2 things: the same text again makes all anew");
        x.refer(6, 0);
        x.reading(0, 1, 1);
        Check.due("things", x.things(3, 0, 0, 7), 1);
        Check.due("references", x.many(1), 1);
    }

    public static void main(String[] args) {
        takenOnes();
        firstOfBegin();
        firstOfThings();
        firstOfReferences();
        lanes();
        aRowOfSixty();
        refused();
        faults();
        makesAllAnew();
        Check.finish();
    }
}
