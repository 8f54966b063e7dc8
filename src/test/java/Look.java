/** All that is seen of an object (but fault(), which looking changes), as a text. */
final class Look {
    private static final int CELLS = 6;

    private Look() {
    }

    /** Some 130 calls: an object that is looked at twice stays far below 512. */
    static String at(OwnedThings x) {
        StringBuilder seen = new StringBuilder("many");
        for (int what = 0; what <= 4; what++) {
            seen.append(' ').append(x.many(what));
        }
        seen.append(" trace ").append(x.trace());
        things(x, seen);
        for (int k = 0; k < 4; k++) {
            sheet(x, k, seen);
        }
        return seen.toString();
    }

    private static void things(OwnedThings x, StringBuilder seen) {
        for (int t = 0; t < x.many(0); t++) {
            seen.append(" | thing ").append(x.ofThing(t, 0)).append(' ').append(x.ofThing(t, 1));
            seen.append(" may be ").append(x.kinds(t)).append(' ').append(x.owners(t)).append(" at");
            for (int a = 0; a <= 6; a++) {
                seen.append(' ').append(a < 6 && a >= x.many(0) ? -1 : x.place(a, t));
            }
        }
    }

    private static void sheet(OwnedThings x, int k, StringBuilder seen) {
        seen.append(" | sheet");
        for (int lane = 0; lane <= 2; lane++) {
            long first = x.cell(k, 0, lane);
            seen.append(' ').append(x.fault());
            if (first != OwnedThings.LOST) {
                seen.append(" cells ").append(first);
                for (int i = 1; i < CELLS; i++) {
                    seen.append(' ').append(x.cell(k, i, lane));
                }
            }
        }
    }
}
