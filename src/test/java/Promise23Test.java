/** Promise 23: put. */
public final class Promise23Test extends Promises {
    public static void main(String[] args) {
        run(Promise23Test.class);
    }

    private static void comesTo(Due due, int lane, int v, int want) {
        DunceSee x = new DunceSee();
        x.sheet(0, lane, 3);
        due.is("put " + v, x.put(0, 1, v), 1);
        due.is("cell of " + v + " in lane " + lane, x.cell(0, 1, lane), want);
    }

    @Holds(promise = 23, says = "Cell i of a SHEET becomes v: 1.")
    static void aCellBecomes(Due due) {
        DunceSee x = new DunceSee();
        row(x, 0, 0, 1, 2, 3);
        row(x, 1, 1, 1, 2, 3);
        namesFaults(due, x, "put(1, 1, 9)", () -> x.put(1, 1, 9), 1);
        long[] want = {1, 9, 3};
        for (int i = 0; i < 3; i++) {
            due.is("cell " + i, x.cell(1, i, 1), want[i]);
            due.is("cell " + i + " of another SHEET", x.cell(0, i, 0), i + 1);
        }
        due.is("the first cell", x.put(1, 0, -4), 1);
        due.is("the first cell", x.cell(1, 0, 1), -4);
        due.is("the last cell", x.put(1, 2, -5), 1);
        due.is("the last cell", x.cell(1, 2, 1), -5);
    }

    @Holds(promise = 23, says = "what comes to a cell of it is cut to its LANE.")
    static void bytesAreCut(Due due) {
        int[] put = {127, 128, 255, 256, 257, -128, -129, -256, 300, 65535, GREATEST, LEAST};
        int[] want = {127, -128, -1, 0, 1, -128, 127, 0, 44, -1, -1, 0};
        for (int i = 0; i < put.length; i++) {
            comesTo(due, 0, put[i], want[i]);
        }
    }

    @Holds(promise = 23, says = "of a LANE: 0 bytes, 1 shorts, 2 ints; what comes to a cell of it is cut to its LANE.")
    static void shortsAndIntsAreCut(Due due) {
        int[] put = {128, 32767, 32768, 65535, 65536, -32768, -32769, 99999, GREATEST, LEAST};
        int[] shorts = {128, 32767, -32768, -1, 0, -32768, 32767, -31073, -1, 0};
        for (int i = 0; i < put.length; i++) {
            comesTo(due, 1, put[i], shorts[i]);
            comesTo(due, 2, put[i], put[i]);
        }
    }

    @Holds(promise = 23, says = "UNKNOWN")
    static void noSuchSheet(Due due) {
        DunceSee x = told(TWO);
        for (int k : not(0, 3)) {
            namesFaults(due, x, "put(" + k + ", 0, 0)", () -> x.put(k, 0, 0), UNKNOWN);
        }
    }

    @Holds(promise = 23, says = "NULL")
    static void intoNothing(Due due) {
        DunceSee x = told(TWO);
        fails(due, x, "put(1, 0, 0)", x.put(1, 0, 0), NULL);
        x.lose(0);
        fails(due, x, "put into what is lost", x.put(0, 0, 0), NULL);
    }

    @Holds(promise = 23, says = "INDEX.")
    static void noSuchCell(Due due) {
        DunceSee x = new DunceSee();
        x.sheet(0, 2, 3);
        for (int i : new int[] {-1, 3, 4, 59, 60, LEAST, GREATEST}) {
            fails(due, x, "put(0, " + i + ", 0)", x.put(0, i, 0), INDEX);
        }
        x.sheet(1, 2, 0);
        fails(due, x, "of no cells", x.put(1, 0, 0), INDEX);
        x.sheet(2, 2, 60);
        fails(due, x, "of sixty", x.put(2, 60, 0), INDEX);
    }

    @Holds(promise = 23, says = "Of a call the first that is come to, in the order told")
    static void inOrder(Due due) {
        DunceSee x = new DunceSee();
        due.is("SHEET, INDEX", x.put(4, -1, 0), UNKNOWN);
        fails(due, x, "NULL, INDEX", x.put(0, -1, 0), NULL);
        fails(due, x, "NULL, INDEX", x.put(0, 60, 0), NULL);
    }

    @Holds(promise = 23, says = "they change nothing (but fault(), of a call that names FAULTS)")
    static void nothingIsChanged(Due due) {
        DunceSee x = told(TWO);
        row(x, 1, 1, 7, 8, 9);
        row(x, 2, 1, 7, 8, 9);
        changesNothing(due, x, () -> {
            due.is("UNKNOWN", x.put(4, 0, 5), UNKNOWN);
            due.is("NULL", x.put(3, 0, 5), -10 - NULL);
            due.is("INDEX", x.put(1, 3, 5), -10 - INDEX);
            due.is("INDEX", x.put(2, -1, 5), -10 - INDEX);
        });
        DunceSee full = new DunceSee();
        for (int k = 0; k < 4; k++) {
            full.sheet(k, 2, 60);
        }
        due.is("beyond a full row", full.put(1, 60, 5), -10 - INDEX);
        due.is("the row behind it", full.cell(2, 0, 2), 0);
        due.is("ahead of a full row", full.put(1, -1, 5), -10 - INDEX);
        due.is("the row ahead of it", full.cell(0, 59, 2), 0);
    }
}
