/** Counts answers that are not as due, and tells things to an object by a text. */
final class Check {
    static final int UNKNOWN = -1, OUTSIDE = -2, STATE = -3, FULL = -4, NONE = -9;
    static final int NULL = -11, CAST = -12, INDEX = -13, SIZE = -14;
    /** Three chains and a way past: thing 3, owned by 0, is reached through 4 and 5, too. */
    static final String SIX = "o;pw;g0;d1;p0;gw;p4,w0,01,12,03,23,w4,45,53";

    private static int wrong = 0;
    private static int checked = 0;

    private Check() {
    }

    static void due(String call, long got, long want) {
        checked++;
        if (got != want) {
            wrong++;
            System.out.println(call + " answered " + got + ", due is " + want);
        }
    }

    /** A set as bits. */
    static int set(int... members) {
        int set = 0;
        for (int member : members) {
            set |= 1 << member;
        }
        return set;
    }

    static OwnedThings with(String text) {
        OwnedThings x = new OwnedThings();
        tellText(x, text);
        return x;
    }

    /** Lays the text into sheet 3 as bytes and has it told; what things() answered. */
    static int tellText(OwnedThings x, String text) {
        x.sheet(3, 0, text.length());
        for (int i = 0; i < text.length(); i++) {
            x.put(3, i, text.charAt(i));
        }
        return x.things(3, 0, 0, text.length());
    }

    /** Lays numbers into sheet k as ints. */
    static void row(OwnedThings x, int k, int... numbers) {
        x.sheet(k, 2, numbers.length);
        for (int i = 0; i < numbers.length; i++) {
            x.put(k, i, numbers[i]);
        }
    }

    static void finish() {
        System.out.println(checked + " answers looked at, " + wrong + " not as due");
        if (wrong != 0 || checked == 0) {
            System.exit(1);
        }
    }
}
