/** Promises 18 to 22: sheets and their cells. */
public final class SheetsTest {
    private static final long LOST = OwnedThings.LOST;

    private static void rows() {
        OwnedThings x = new OwnedThings();
        Check.due("no such sheet", x.sheet(-1, 3, 61), Check.UNKNOWN);
        Check.due("no such sheet", x.sheet(4, 0, 1), Check.UNKNOWN);
        Check.due("no such lane", x.sheet(0, 3, -1), Check.OUTSIDE);
        Check.due("no such lane", x.sheet(0, -1, 1), Check.OUTSIDE);
        Check.due("too long", x.sheet(0, 0, 61), Check.OUTSIDE);
        Check.due("no fault", x.fault(), 0);
        Check.due("below 0", x.sheet(0, 0, -1), Check.SIZE);
        Check.due("fault", x.fault(), 4);
        Check.due("still nothing", x.lose(0), 0);
        Check.due("fault stays", x.fault(), 4);
        Check.due("sixty", x.sheet(0, 2, 60), 1);
        Check.due("no fault", x.fault(), 0);
        for (int i = 0; i < 60; i++) {
            x.put(0, i, i + 1);
        }
        Check.due("last cell", x.cell(0, 59, 2), 60);
        Check.due("a new row", x.sheet(0, 2, 60), 1);
        Check.due("0 at first", x.cell(0, 0, 2) + x.cell(0, 59, 2), 0);
        Check.due("no cells", x.sheet(0, 1, 0), 1);
        Check.due("no cell 0", x.cell(0, 0, 1), LOST);
        Check.due("fault", x.fault(), 3);
        Check.due("refused ones change nothing", x.sheet(0, 0, 61), Check.OUTSIDE);
        Check.due("its lane stays", x.cell(0, 0, 0), LOST);
        Check.due("fault", x.fault(), 2);
        Check.due("lost", x.lose(0), 1);
        Check.due("lost already", x.lose(0), 0);
        Check.due("no such sheet", x.lose(4), Check.UNKNOWN);
        Check.due("no such sheet", x.lose(-1), Check.UNKNOWN);
        Check.due("nothing then", x.cell(0, 0, 1), LOST);
        Check.due("fault", x.fault(), 1);
    }

    private static void cells() {
        OwnedThings x = new OwnedThings();
        int[] numbers = {0, 1, -1, 127, 128, 255, 256, 32767, 32768, 65535, 65536, Integer.MAX_VALUE, Integer.MIN_VALUE};
        for (int v : numbers) {
            for (int lane = 0; lane <= 2; lane++) {
                x.sheet(lane, lane, 2);
                Check.due("put", x.put(lane, 1, v), 1);
                long due = lane == 0 ? (byte) v : lane == 1 ? (short) v : v;
                Check.due("cell of lane " + lane + " with " + v, x.cell(lane, 1, lane), due);
                Check.due("its neighbour", x.cell(lane, 0, lane), 0);
            }
        }
    }

    private static void cellsRefused() {
        OwnedThings x = new OwnedThings();
        x.sheet(1, 1, 2);
        Check.due("no such sheet", x.put(4, 0, 0), Check.UNKNOWN);
        Check.due("nothing", x.put(0, -1, 0), Check.NULL);
        Check.due("fault", x.fault(), 1);
        Check.due("below 0", x.put(1, -1, 0), Check.INDEX);
        Check.due("fault", x.fault(), 3);
        Check.due("beyond", x.put(1, 2, 0), Check.INDEX);
        Check.due("well put", x.put(1, 1, 0), 1);
        Check.due("no fault", x.fault(), 0);
        Check.due("no such sheet", x.cell(-1, 0, 0), LOST);
        Check.due("no fault", x.fault(), 0);
        Check.due("nothing", x.cell(0, 0, 0), LOST);
        Check.due("fault", x.fault(), 1);
        Check.due("no such lane", x.cell(0, 0, 3), LOST);
        Check.due("refused", x.fault(), 0);
        Check.due("another lane, beyond", x.cell(1, 2, 0), LOST);
        Check.due("fault", x.fault(), 2);
        Check.due("beyond", x.cell(1, 2, 1), LOST);
        Check.due("fault", x.fault(), 3);
        Check.due("far beyond", x.cell(1, Integer.MAX_VALUE, 1), LOST);
        Check.due("far below", x.cell(1, Integer.MIN_VALUE, 1), LOST);
        Check.due("well", x.cell(1, 1, 1), 0);
        Check.due("no fault", x.fault(), 0);
    }

    private static void isRow(OwnedThings x, int k, int... due) {
        for (int i = 0; i < due.length; i++) {
            Check.due("cell " + i + " of " + k, x.cell(k, i, 2), due[i]);
        }
    }

    private static void copies() {
        OwnedThings x = new OwnedThings();
        Check.row(x, 0, 1, 2, 3, 4, 5);
        Check.row(x, 1, 9, 9, 9);
        Check.due("copy", x.copy(0, 1, 1, 0, 2), 2);
        isRow(x, 1, 2, 3, 9);
        isRow(x, 0, 1, 2, 3, 4, 5);
        Check.due("copy up", x.copy(0, 0, 0, 1, 4), 4);
        isRow(x, 0, 1, 1, 2, 3, 4);
        Check.due("copy down", x.copy(0, 2, 0, 0, 3), 3);
        isRow(x, 0, 2, 3, 4, 3, 4);
        Check.due("none, at the ends", x.copy(0, 5, 1, 3, 0), 0);
        Check.due("all", x.copy(1, 0, 0, 2, 3), 3);
        isRow(x, 0, 2, 3, 2, 3, 9);
    }

    private static void copiesRefused() {
        OwnedThings x = new OwnedThings();
        Check.row(x, 0, 1, 2, 3, 4, 5);
        Check.row(x, 1, 9, 9, 9);
        x.sheet(2, 1, 3);
        Check.due("no such sheet", x.copy(4, 0, 3, 0, 1), Check.UNKNOWN);
        Check.due("no such sheet", x.copy(3, 0, -1, 0, 1), Check.UNKNOWN);
        Check.due("the first is nothing", x.copy(3, 0, 0, 0, -1), Check.NULL);
        Check.due("the other is nothing", x.copy(0, 0, 3, 0, -1), Check.NULL);
        Check.due("fault", x.fault(), 1);
        Check.due("unlike lanes", x.copy(0, 0, 2, 0, -1), Check.CAST);
        Check.due("fault", x.fault(), 2);
        Check.due("n below 0", x.copy(0, 0, 1, 0, -1), Check.INDEX);
        Check.due("i below 0", x.copy(0, -1, 1, 0, 1), Check.INDEX);
        Check.due("j below 0", x.copy(0, 0, 1, -1, 1), Check.INDEX);
        Check.due("beyond the first", x.copy(1, 2, 0, 0, 2), Check.INDEX);
        Check.due("beyond the other", x.copy(0, 0, 1, 0, 4), Check.INDEX);
        Check.due("none, beyond the first", x.copy(0, 6, 1, 0, 0), Check.INDEX);
        Check.due("none, beyond the other", x.copy(0, 0, 1, 4, 0), Check.INDEX);
        Check.due("sum wraps", x.copy(0, 1, 1, 1, Integer.MAX_VALUE), Check.INDEX);
        Check.due("fault", x.fault(), 3);
        isRow(x, 0, 1, 2, 3, 4, 5);
        isRow(x, 1, 9, 9, 9);
        Check.due("well", x.copy(0, 0, 1, 0, 0), 0);
        Check.due("no fault", x.fault(), 0);
    }

    public static void main(String[] args) {
        rows();
        cells();
        cellsRefused();
        copies();
        copiesRefused();
        Check.finish();
    }
}
