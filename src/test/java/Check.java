/** Counts tests and the answers that are not as due, and tells things to an object by a text. */
final class Check {
    static final int UNKNOWN = -1, OUTSIDE = -2, STATE = -3, FULL = -4, NONE = -9;
    static final int NULL = -11, CAST = -12, INDEX = -13, SIZE = -14;
    static final long LOST = Long.MIN_VALUE;
    /** In place of a fault: what fault() was ahead of the call. */
    static final int KEPT = -1;
    static final int LEAST = Integer.MIN_VALUE, MOST = Integer.MAX_VALUE;
    /** Three chains and a way past: thing 3, owned by 0, is reached through 4 and 5, too. */
    static final String SIX = "o;pw;g0;d1;p0;gw;p4,w0,01,12,03,23,w4,45,53";
    /** Each of four things refers to each other one. */
    static final String TWELVE = "o;pw;pw;pw;pw,01,02,03,10,12,13,20,21,23,30,31,32";

    /** One call, or several of which the last one's answer counts. */
    interface Call {
        long of(OwnedThings x);
    }

    private static String test = "";
    private static boolean failed = false;
    private static int tests = 0;
    private static int failures = 0;
    private static int checked = 0;

    private Check() {
    }

    /** Begins a test; the answers looked at from here on are its own. */
    static void test(String sentence) {
        endTest();
        test = sentence;
        failed = false;
        tests++;
    }

    private static void endTest() {
        if (failed) {
            failures++;
        }
    }

    static void due(String call, long got, long want) {
        checked++;
        if (got != want) {
            fail(call + " answered " + got + ", due is " + want);
        }
    }

    static void same(String what, String got, String want) {
        checked++;
        if (!got.equals(want)) {
            fail(what + " was\n  " + want + ", is\n  " + got);
        }
    }

    private static void fail(String why) {
        failed = true;
        System.out.println("[" + test + "] " + why);
    }

    /** A test of its own: this call on this object answers so. */
    static void answers(String sentence, OwnedThings x, long want, Call call) {
        test(sentence);
        due("the call", call.of(x), want);
    }

    /** A test of its own: the call answers so, fault() is so then, and nothing else has changed. */
    static void keeps(String sentence, OwnedThings x, long want, int fault, Call call) {
        test(sentence);
        String then = Look.at(x);
        if (x.fault() == fault) {
            // So that what fault() is then comes from the call: 2, or 0 without things.
            x.as(0, 2);
        }
        int before = x.fault();
        due("the call", call.of(x), want);
        due("fault()", x.fault(), fault == KEPT ? before : fault);
        same("all that is seen", Look.at(x), then);
    }

    /** A set as bits. */
    static int set(int... members) {
        int set = 0;
        for (int member : members) {
            set |= 1 << member;
        }
        return set;
    }

    static OwnedThings with(String text) {
        OwnedThings x = new OwnedThings();
        tellText(x, text);
        return x;
    }

    /** Of everything something: things, readings, a row of each lane, a trace; sheet 3 has nothing. */
    static OwnedThings full() {
        OwnedThings x = with(SIX);
        x.reading(0, 1, 1);
        x.reading(3, 2, 1);
        lay(x, 0, 0, 7, -7, 1, 2);
        lay(x, 1, 1, 300, -300, 5);
        row(x, 2, 0, 1, 2, 1, 3, 6);
        x.lose(3);
        x.tell(2);
        return x;
    }

    /** A refusal of a call that names no faults. */
    static void refused(String sentence, long want, Call call) {
        keeps(sentence, full(), want, KEPT, call);
    }

    /** A refusal of a call that names faults: fault() is 0 then. */
    static void refusedFaultless(String sentence, long want, Call call) {
        keeps(sentence, full(), want, 0, call);
    }

    /** A fault: the call answers -10 less it. */
    static void faulted(String sentence, int answer, Call call) {
        keeps(sentence, full(), answer, -10 - answer, call);
    }

    /** Lays the text into sheet 3 as bytes and has it told; what things() answered. */
    static int tellText(OwnedThings x, String text) {
        x.sheet(3, 0, text.length());
        for (int i = 0; i < text.length(); i++) {
            x.put(3, i, text.charAt(i));
        }
        return x.things(3, 0, 0, text.length());
    }

    /** Lays numbers into sheet k as ints. */
    static void row(OwnedThings x, int k, int... numbers) {
        lay(x, k, 2, numbers);
    }

    /** Lays numbers into sheet k as a row of a lane. */
    static void lay(OwnedThings x, int k, int lane, int... numbers) {
        x.sheet(k, lane, numbers.length);
        for (int i = 0; i < numbers.length; i++) {
            x.put(k, i, numbers[i]);
        }
    }

    /** The last line is read by .ci/run. */
    static void finish() {
        endTest();
        System.out.println(checked + " answers looked at");
        System.out.println((tests - failures) + " well, " + failures + " not");
        if (failures != 0 || tests == 0) {
            System.exit(1);
        }
    }
}
