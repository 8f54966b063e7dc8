/** Promises 18 to 22: sheets and their cells. */
public final class SheetsTest {
    private static void rows() {
        for (int number = 0; number < 4; number++) {
            int k = number;
            Check.answers("18 sheet: sheet " + k + " gets a row", new OwnedThings(), 1, x -> x.sheet(k, 0, 1));
        }
        for (int number = 0; number <= 2; number++) {
            int lane = number;
            Check.answers("18 sheet: a row of no cells of lane " + lane, new OwnedThings(), 1, x -> x.sheet(0, lane, 0));
            Check.answers("18 sheet: a row of 60 cells of lane " + lane, new OwnedThings(), 1, x -> x.sheet(0, lane, 60));
            Check.test("18 sheet: 0 at first, lane " + lane);
            OwnedThings x = new OwnedThings();
            x.sheet(3, lane, 60);
            for (int i = 0; i < 60; i++) {
                Check.due("cell " + i, x.cell(3, i, lane), 0);
            }
            Check.due("a 61st", x.cell(3, 60, lane), Check.LOST);
            Check.due("which is INDEX", x.fault(), 3);
        }
        Check.test("18 sheet: a new row is 0 at first");
        OwnedThings x = new OwnedThings();
        Check.row(x, 0, 1, 2, 3);
        x.sheet(0, 2, 4);
        for (int i = 0; i < 4; i++) {
            Check.due("cell " + i, x.cell(0, i, 2), 0);
        }
        Check.test("18 sheet: a new row of another lane, shorter");
        Check.row(x, 0, 1, 2, 3);
        x.sheet(0, 1, 2);
        Check.due("its lane", x.cell(0, 0, 1), 0);
        Check.due("not the old lane", x.cell(0, 0, 2), Check.LOST);
        Check.due("not the old cells", x.cell(0, 2, 1), Check.LOST);
        Check.test("18 sheet: a row of no cells is not nothing");
        x.sheet(0, 0, 0);
        Check.due("no cell", x.put(0, 0, 1), Check.INDEX);
        Check.due("it had a row", x.lose(0), 1);
        Check.test("18 sheet: the others stay");
        OwnedThings full = Check.full();
        full.sheet(1, 0, 9);
        Check.due("sheet 0", full.cell(0, 0, 0), 7);
        Check.due("sheet 2", full.cell(2, 1, 2), 1);
        Check.due("sheet 3", full.lose(3), 0);
        Check.test("18 sheet: a row comes to no fault");
        Check.due("a fault", full.sheet(0, 0, -1), Check.SIZE);
        Check.due("a row", full.sheet(0, 0, 1), 1);
        Check.due("fault", full.fault(), 0);
    }

    private static void rowsRefused() {
        for (int k : new int[] {-1, 4, Check.LEAST, Check.MOST}) {
            Check.refusedFaultless("18 sheet: UNKNOWN: sheet " + k, Check.UNKNOWN, x -> x.sheet(k, 0, 1));
        }
        for (int lane : new int[] {-1, 3, Check.LEAST, Check.MOST}) {
            Check.refusedFaultless("18 sheet: OUTSIDE: lane " + lane, Check.OUTSIDE, x -> x.sheet(0, lane, 1));
        }
        for (int n : new int[] {61, 100, Check.MOST}) {
            Check.refusedFaultless("18 sheet: OUTSIDE: n " + n, Check.OUTSIDE, x -> x.sheet(0, 0, n));
        }
        for (int n : new int[] {-1, -61, Check.LEAST}) {
            Check.faulted("18 sheet: SIZE: n " + n, Check.SIZE, x -> x.sheet(0, 0, n));
            Check.faulted("18 sheet: SIZE of what has nothing: n " + n, Check.SIZE, x -> x.sheet(3, 2, n));
        }
        Check.refusedFaultless("18 sheet: UNKNOWN ahead of OUTSIDE", Check.UNKNOWN, x -> x.sheet(4, 3, 61));
        Check.refusedFaultless("18 sheet: UNKNOWN ahead of SIZE", Check.UNKNOWN, x -> x.sheet(4, 0, -1));
        Check.refusedFaultless("18 sheet: OUTSIDE ahead of SIZE", Check.OUTSIDE, x -> x.sheet(0, 3, -1));
    }

    private static void lost() {
        Check.test("19 lose: 1, then it had nothing: 0");
        OwnedThings x = Check.full();
        Check.due("a row", x.lose(0), 1);
        Check.due("nothing", x.lose(0), 0);
        Check.due("no cell", x.put(0, 0, 1), Check.NULL);
        Check.due("the others stay", x.lose(1), 1);
        Check.due("the others stay", x.lose(2), 1);
        Check.keeps("19 lose: 0: it had nothing", Check.full(), 0, Check.KEPT, y -> y.lose(3));
        for (int k : new int[] {-1, 4, Check.LEAST, Check.MOST}) {
            Check.refused("19 lose: UNKNOWN: sheet " + k, Check.UNKNOWN, y -> y.lose(k));
        }
        Check.test("19 lose: a row of no cells");
        x.sheet(0, 0, 0);
        Check.due("a row", x.lose(0), 1);
        Check.test("19 lose: a new row is 0 at first");
        Check.row(x, 0, 5, 6);
        x.lose(0);
        x.sheet(0, 2, 2);
        Check.due("cell 0", x.cell(0, 0, 2), 0);
        Check.due("cell 1", x.cell(0, 1, 2), 0);
    }

    private static void cutToLanes() {
        int[] numbers = {0, 1, -1, 127, 128, -128, -129, 255, 256, 32767, 32768, -32768, -32769, 65535, 65536, Check.MOST, Check.LEAST};
        int[] bytes = {0, 1, -1, 127, -128, -128, 127, -1, 0, -1, 0, 0, -1, -1, 0, -1, 0};
        int[] shorts = {0, 1, -1, 127, 128, -128, -129, 255, 256, 32767, -32768, -32768, 32767, -1, 0, -1, 0};
        for (int at = 0; at < numbers.length; at++) {
            int v = numbers[at];
            int[] dues = {bytes[at], shorts[at], v};
            for (int lane = 0; lane <= 2; lane++) {
                Check.test("20 put: " + v + " is cut to lane " + lane);
                OwnedThings x = new OwnedThings();
                x.sheet(lane, lane, 3);
                Check.due("put", x.put(lane, 1, v), 1);
                Check.due("cell", x.cell(lane, 1, lane), dues[lane]);
                Check.due("the cell ahead", x.cell(lane, 0, lane), 0);
                Check.due("the cell behind", x.cell(lane, 2, lane), 0);
            }
        }
    }

    private static void putsRefused() {
        for (int k : new int[] {-1, 4, Check.LEAST, Check.MOST}) {
            Check.refusedFaultless("20 put: UNKNOWN: sheet " + k, Check.UNKNOWN, x -> x.put(k, 0, 9));
            Check.refusedFaultless("21 cell: UNKNOWN: sheet " + k, Check.LOST, x -> x.cell(k, 0, 0));
        }
        Check.faulted("20 put: NULL", Check.NULL, x -> x.put(3, 0, 9));
        Check.faulted("20 put: NULL ahead of INDEX", Check.NULL, x -> x.put(3, -1, 9));
        for (int i : new int[] {-1, 4, 5, 60, Check.LEAST, Check.MOST}) {
            Check.faulted("20 put: INDEX: " + i + " of 4", Check.INDEX, x -> x.put(0, i, 9));
            Check.keeps("21 cell: INDEX: " + i + " of 4", Check.full(), Check.LOST, 3, x -> x.cell(0, i, 0));
        }
        Check.refusedFaultless("20 put: UNKNOWN ahead of INDEX", Check.UNKNOWN, x -> x.put(4, -1, 9));
        for (int lane : new int[] {-1, 3, Check.LEAST, Check.MOST}) {
            Check.refusedFaultless("21 cell: OUTSIDE: lane " + lane, Check.LOST, x -> x.cell(0, 0, lane));
        }
        for (int lane = 0; lane <= 2; lane++) {
            int taken = lane;
            Check.keeps("21 cell: nothing is no CAST, lane " + lane, Check.full(), Check.LOST, 1, x -> x.cell(3, 0, taken));
            for (int k = 0; k <= 2; k++) {
                int sheet = k;
                if (k != lane) {
                    Check.keeps("21 cell: CAST: sheet " + k + " as lane " + lane, Check.full(), Check.LOST, 2, x -> x.cell(sheet, 0, taken));
                }
            }
        }
        Check.refusedFaultless("21 cell: OUTSIDE ahead of NULL", Check.LOST, x -> x.cell(3, 0, 3));
        Check.keeps("21 cell: NULL ahead of INDEX", Check.full(), Check.LOST, 1, x -> x.cell(3, -1, 0));
        Check.keeps("21 cell: CAST ahead of INDEX", Check.full(), Check.LOST, 2, x -> x.cell(0, 9, 1));
    }

    private static void firstAndLastCells() {
        for (int k = 0; k <= 2; k++) {
            Check.test("20 put: first and last cell of sheet " + k);
            OwnedThings x = new OwnedThings();
            x.sheet(k, k, 60);
            Check.due("first", x.put(k, 0, 11), 1);
            Check.due("last", x.put(k, 59, 22), 1);
            Check.due("first", x.cell(k, 0, k), 11);
            Check.due("last", x.cell(k, 59, k), 22);
            Check.due("second", x.cell(k, 1, k), 0);
            Check.due("a 61st", x.put(k, 60, 1), Check.INDEX);
        }
        Check.test("20 put: a cell of a row of no cells");
        OwnedThings x = new OwnedThings();
        x.sheet(0, 0, 0);
        Check.due("put", x.put(0, 0, 1), Check.INDEX);
        Check.due("cell", x.cell(0, 0, 0), Check.LOST);
        Check.due("fault", x.fault(), 3);
        Check.keeps("20 put: comes to no fault", Check.full(), 1, 0, y -> y.put(0, 0, 7));
        Check.keeps("21 cell: comes to no fault, changes nothing", Check.full(), -300, 0, y -> y.cell(1, 1, 1));
    }

    private static void isRow(OwnedThings x, int k, int lane, int... due) {
        for (int i = 0; i < due.length; i++) {
            Check.due("cell " + i + " of " + k, x.cell(k, i, lane), due[i]);
        }
    }

    private static OwnedThings twoRows() {
        OwnedThings x = new OwnedThings();
        Check.row(x, 0, 1, 2, 3, 4, 5);
        Check.row(x, 1, 9, 8, 7);
        return x;
    }

    private static void copies() {
        Check.test("22 copy: to another one");
        OwnedThings x = twoRows();
        Check.due("copy", x.copy(0, 1, 1, 0, 2), 2);
        isRow(x, 1, 2, 2, 3, 7);
        isRow(x, 0, 2, 1, 2, 3, 4, 5);
        Check.test("22 copy: to the same one, up, as they were");
        x = twoRows();
        Check.due("copy", x.copy(0, 0, 0, 1, 4), 4);
        isRow(x, 0, 2, 1, 1, 2, 3, 4);
        Check.test("22 copy: to the same one, down, as they were");
        x = twoRows();
        Check.due("copy", x.copy(0, 2, 0, 0, 3), 3);
        isRow(x, 0, 2, 3, 4, 5, 4, 5);
        Check.keeps("22 copy: to the same place", twoRows(), 5, 0, y -> y.copy(0, 0, 0, 0, 5));
        Check.keeps("22 copy: none, from the end to the end", twoRows(), 0, 0, y -> y.copy(0, 5, 1, 3, 0));
        Check.keeps("22 copy: none, from the begin to the begin", twoRows(), 0, 0, y -> y.copy(0, 0, 1, 0, 0));
        Check.test("22 copy: up to both ends");
        x = twoRows();
        Check.due("copy", x.copy(1, 0, 0, 2, 3), 3);
        isRow(x, 0, 2, 1, 2, 9, 8, 7);
        for (int lane = 0; lane <= 2; lane++) {
            Check.test("22 copy: of lane " + lane);
            OwnedThings y = new OwnedThings();
            Check.lay(y, 2, lane, -3, 100, 5);
            y.sheet(3, lane, 2);
            Check.due("copy", y.copy(2, 1, 3, 0, 2), 2);
            isRow(y, 3, lane, 100, 5);
        }
        Check.test("22 copy: all 60");
        OwnedThings z = new OwnedThings();
        z.sheet(0, 2, 60);
        z.sheet(1, 2, 60);
        z.put(0, 0, 4);
        z.put(0, 59, 6);
        Check.due("copy", z.copy(0, 0, 1, 0, 60), 60);
        Check.due("first", z.cell(1, 0, 2), 4);
        Check.due("last", z.cell(1, 59, 2), 6);
        Check.due("one more", z.copy(0, 0, 1, 0, 61), Check.INDEX);
    }

    private static OwnedThings threeRows() {
        OwnedThings x = twoRows();
        x.sheet(2, 1, 3);
        return x;
    }

    private static void fault(String why, int answer, Check.Call call) {
        Check.keeps("22 copy: " + why, threeRows(), answer, -10 - answer, call);
    }

    private static void copiesRefused() {
        for (int k : new int[] {-1, 4, Check.LEAST, Check.MOST}) {
            Check.refusedFaultless("22 copy: UNKNOWN: from sheet " + k, Check.UNKNOWN, x -> x.copy(k, 0, 0, 0, 1));
            Check.refusedFaultless("22 copy: UNKNOWN: to sheet " + k, Check.UNKNOWN, x -> x.copy(0, 0, k, 0, 1));
        }
        Check.refusedFaultless("22 copy: UNKNOWN: the other, ahead of NULL", Check.UNKNOWN, x -> x.copy(3, 0, 4, 0, 1));
        Check.refusedFaultless("22 copy: UNKNOWN ahead of INDEX", Check.UNKNOWN, x -> x.copy(4, 0, 0, 0, -1));
        fault("NULL: the first", Check.NULL, x -> x.copy(3, 0, 0, 0, 1));
        fault("NULL: the other", Check.NULL, x -> x.copy(0, 0, 3, 0, 1));
        fault("NULL: both", Check.NULL, x -> x.copy(3, 0, 3, 0, 0));
        fault("NULL ahead of INDEX", Check.NULL, x -> x.copy(0, -1, 3, 0, -1));
        Check.test("22 copy: NULL ahead of CAST");
        OwnedThings x = threeRows();
        x.lose(2);
        Check.due("the first is nothing", x.copy(2, 0, 0, 0, 1), Check.NULL);
        Check.due("the other is nothing", x.copy(0, 0, 2, 0, 1), Check.NULL);
        fault("CAST: ints to shorts", Check.CAST, y -> y.copy(0, 0, 2, 0, 1));
        fault("CAST: shorts to ints", Check.CAST, y -> y.copy(2, 0, 0, 0, 1));
        fault("CAST of none", Check.CAST, y -> y.copy(2, 0, 0, 0, 0));
        fault("CAST ahead of INDEX", Check.CAST, y -> y.copy(0, 9, 2, 9, -1));
        fault("INDEX: n below 0", Check.INDEX, y -> y.copy(0, 0, 1, 0, -1));
        fault("INDEX: the least n", Check.INDEX, y -> y.copy(0, 0, 1, 0, Check.LEAST));
        fault("INDEX: i below 0", Check.INDEX, y -> y.copy(0, -1, 1, 0, 1));
        fault("INDEX: the least i", Check.INDEX, y -> y.copy(0, Check.LEAST, 1, 0, 1));
        fault("INDEX: j below 0", Check.INDEX, y -> y.copy(0, 0, 1, -1, 1));
        fault("INDEX: the least j", Check.INDEX, y -> y.copy(0, 0, 1, Check.LEAST, 1));
        fault("INDEX: i and n beyond", Check.INDEX, y -> y.copy(1, 2, 0, 0, 2));
        fault("INDEX: j and n beyond", Check.INDEX, y -> y.copy(0, 0, 1, 2, 2));
        fault("INDEX: n beyond the first", Check.INDEX, y -> y.copy(1, 0, 0, 0, 4));
        fault("INDEX: n beyond the other", Check.INDEX, y -> y.copy(0, 0, 1, 0, 4));
        fault("INDEX: n beyond the same", Check.INDEX, y -> y.copy(1, 0, 1, 0, 4));
        fault("INDEX: none, from beyond the first", Check.INDEX, y -> y.copy(0, 6, 1, 0, 0));
        fault("INDEX: none, beyond the other", Check.INDEX, y -> y.copy(0, 0, 1, 4, 0));
        fault("INDEX: none, from -1 on", Check.INDEX, y -> y.copy(0, -1, 1, 0, 0));
        fault("INDEX: none, to -1", Check.INDEX, y -> y.copy(0, 0, 1, -1, 0));
        fault("INDEX: i and n wrap", Check.INDEX, y -> y.copy(0, 1, 1, 0, Check.MOST));
        fault("INDEX: j and n wrap", Check.INDEX, y -> y.copy(0, 0, 1, 1, Check.MOST));
        fault("INDEX: i wraps", Check.INDEX, y -> y.copy(0, Check.MOST, 1, 0, 1));
        fault("INDEX: j wraps", Check.INDEX, y -> y.copy(0, 0, 1, Check.MOST, 1));
        Check.keeps("22 copy: comes to no fault", threeRows(), 0, 0, y -> y.copy(0, 0, 1, 0, 0));
    }

    public static void main(String[] args) {
        rows();
        rowsRefused();
        lost();
        cutToLanes();
        putsRefused();
        firstAndLastCells();
        copies();
        copiesRefused();
        Check.finish();
    }
}
