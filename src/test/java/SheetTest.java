/** Promises 21 to 30: sheet, lose, put, cell, copy, tell, cap, as, trace, fault. */
public final class SheetTest {
    private static final Due due = new Due("SheetTest");

    public static void main(String[] args) {
        newRows();
        losing();
        puttingAndLanes();
        cells();
        copying();
        copyingWithinOneRow();
        faultsOfCopy();
        telling();
        capping();
        takenAs();
        tracesWrap();
        faultsAreKept();
        due.end();
    }

    private static void newRows() {
        DunceSee x = new DunceSee();
        for (int k = 0; k < 4; k++) {
            for (int lane = 0; lane < 3; lane++) {
                due.is("sheet of 60", x.sheet(k, lane, 60), 1);
                due.is("put 59", x.put(k, 59, 7), 1);
                due.is("cell 59", x.cell(k, 59, lane), 7);
                due.is("sheet anew", x.sheet(k, lane, 60), 1);
                due.is("cell 59 anew", x.cell(k, 59, lane), 0);
                due.is("sheet of 0", x.sheet(k, lane, 0), 1);
                due.is("it has a row", x.put(k, 0, 0), -13);
            }
        }
        due.is("sheet(-1)", x.sheet(-1, 9, 99), -1);
        due.is("sheet(4)", x.sheet(4, 0, -1), -1);
        due.is("fault()", x.fault(), 0);
        x.sheet(0, 1, 2);
        x.put(0, 1, 5);
        due.is("lane -1", x.sheet(0, -1, 1), -2);
        due.is("lane 3", x.sheet(0, 3, -1), -2);
        due.is("n 61", x.sheet(0, 0, 61), -2);
        due.is("n of the most", x.sheet(0, 0, Integer.MAX_VALUE), -2);
        due.is("fault()", x.fault(), 0);
        due.is("n -1", x.sheet(0, 0, -1), -14);
        due.is("fault()", x.fault(), 4);
        due.is("n of the least", x.sheet(0, 0, Integer.MIN_VALUE), -14);
        due.is("the row stays", x.cell(0, 1, 1), 5);
        due.is("lane 3 behind a fault", x.sheet(0, 0, -1), -14);
        due.is("lane 3 behind a fault", x.sheet(0, 3, 0), -2);
        due.is("fault()", x.fault(), 0);
    }

    private static void losing() {
        DunceSee x = new DunceSee();
        x.sheet(3, 0, 5);
        due.is("lose(3)", x.lose(3), 1);
        due.is("lose(3) again", x.lose(3), 0);
        due.is("nothing is there", x.put(3, 0, 0), -11);
        due.is("lose(-1)", x.lose(-1), -1);
        due.is("lose(4)", x.lose(4), -1);
        due.is("lose names no FAULTS", x.fault(), 1);
        x.sheet(2, 0, 0);
        due.is("a row of 0 is a row", x.lose(2), 1);
    }

    private static void puttingAndLanes() {
        int[] values = {0, 1, -1, 127, 128, 255, 256, -128, -129, 32767, 32768, 65535, 65536,
            -32768, -32769, Integer.MAX_VALUE, Integer.MIN_VALUE, 300, 99999};
        DunceSee x = new DunceSee();
        for (int lane = 0; lane < 3; lane++) {
            x.sheet(lane, lane, 3);
            for (int v : values) {
                due.is("put " + v, x.put(lane, 1, v), 1);
                long want = lane == 0 ? (byte) v : lane == 1 ? (short) v : v;
                due.is("cell of " + v + " in lane " + lane, x.cell(lane, 1, lane), want);
            }
            due.is("its neighbours stay", x.cell(lane, 0, lane), 0);
            due.is("its neighbours stay", x.cell(lane, 2, lane), 0);
        }
        due.is("put(-1)", x.put(-1, 0, 0), -1);
        due.is("put(4)", x.put(4, -1, 0), -1);
        due.is("fault()", x.fault(), 0);
        due.is("put into nothing", x.put(3, -1, 0), -11);
        due.is("fault()", x.fault(), 1);
        int[] outside = {-1, 3, 60, Integer.MIN_VALUE, Integer.MAX_VALUE};
        for (int i : outside) {
            due.is("put at " + i, x.put(0, i, 0), -13);
            due.is("fault()", x.fault(), 3);
        }
        due.is("a put that is none behind a fault", x.put(4, 0, 0), -1);
        due.is("fault()", x.fault(), 0);
    }

    private static void cells() {
        DunceSee x = new DunceSee();
        x.sheet(0, 0, 2);
        x.sheet(1, 1, 2);
        x.sheet(2, 2, 2);
        cellIsLost(x, -1, 0, 0, 0);
        cellIsLost(x, 4, 0, 9, 0);
        cellIsLost(x, 0, 0, -1, 0);
        cellIsLost(x, 0, 9, 3, 0);
        cellIsLost(x, 3, 9, 3, 0);
        for (int lane = 0; lane < 3; lane++) {
            cellIsLost(x, 3, 0, lane, 1);
            cellIsLost(x, 3, -1, lane, 1);
            cellIsLost(x, (lane + 1) % 3, 0, lane, 2);
            cellIsLost(x, (lane + 2) % 3, 9, lane, 2);
            cellIsLost(x, lane, -1, lane, 3);
            cellIsLost(x, lane, 2, lane, 3);
            cellIsLost(x, lane, Integer.MAX_VALUE, lane, 3);
            due.is("cell", x.cell(lane, 1, lane), 0);
            due.is("fault()", x.fault(), 0);
        }
    }

    private static void cellIsLost(DunceSee x, int k, int i, int lane, int want) {
        String call = "cell(" + k + ", " + i + ", " + lane + ")";
        x.put(3, 0, 0);
        due.is(call, x.cell(k, i, lane), Long.MIN_VALUE);
        due.is(call + " fault()", x.fault(), want);
    }

    private static DunceSee twoRows() {
        DunceSee x = new DunceSee();
        x.sheet(0, 1, 5);
        x.sheet(1, 1, 4);
        x.sheet(2, 2, 5);
        for (int i = 0; i < 5; i++) {
            x.put(0, i, 10 + i);
            x.put(1, i, 20 + i);
            x.put(2, i, 30 + i);
        }
        return x;
    }

    private static void row(DunceSee x, int k, int lane, int... want) {
        for (int i = 0; i < want.length; i++) {
            due.is("cell " + i + " of sheet " + k, x.cell(k, i, lane), want[i]);
        }
    }

    private static void copying() {
        DunceSee x = twoRows();
        due.is("copy of 2", x.copy(0, 3, 1, 1, 2), 2);
        due.is("fault()", x.fault(), 0);
        row(x, 1, 1, 20, 13, 14, 23);
        row(x, 0, 1, 10, 11, 12, 13, 14);
        due.is("copy of all", x.copy(1, 0, 0, 1, 4), 4);
        row(x, 0, 1, 10, 20, 13, 14, 23);
        due.is("copy of none at the ends", x.copy(0, 5, 1, 4, 0), 0);
        due.is("copy of none", x.copy(0, 0, 1, 0, 0), 0);
        row(x, 1, 1, 20, 13, 14, 23);
    }

    private static void copyingWithinOneRow() {
        DunceSee x = twoRows();
        due.is("copy forth", x.copy(0, 0, 0, 1, 4), 4);
        row(x, 0, 1, 10, 10, 11, 12, 13);
        due.is("copy back", x.copy(0, 2, 0, 0, 3), 3);
        row(x, 0, 1, 11, 12, 13, 12, 13);
    }

    private static void faultsOfCopy() {
        DunceSee x = twoRows();
        copyFails(x, -1, 0, 3, 0, 0, -1);
        copyFails(x, 4, 0, 0, 0, -1, -1);
        copyFails(x, 3, 0, 4, 0, -1, -1);
        copyFails(x, 0, 0, -1, 0, 0, -1);
        copyFails(x, 3, -1, 0, 0, -1, -11);
        copyFails(x, 0, -1, 3, 0, -1, -11);
        copyFails(x, 3, 0, 3, 0, 0, -11);
        copyFails(x, 0, -1, 2, -1, -1, -12);
        copyFails(x, 2, 0, 0, 0, 0, -12);
        copyFails(x, 0, -1, 1, 0, 1, -13);
        copyFails(x, 0, 0, 1, -1, 1, -13);
        copyFails(x, 0, 0, 1, 0, -1, -13);
        copyFails(x, 0, 5, 1, 0, 1, -13);
        copyFails(x, 0, 0, 1, 4, 1, -13);
        copyFails(x, 0, 0, 1, 0, 5, -13);
        copyFails(x, 1, 0, 0, 0, 5, -13);
        copyFails(x, 0, 6, 1, 0, 0, -13);
        copyFails(x, 0, 0, 1, 5, 0, -13);
        copyFails(x, 0, -1, 1, 0, 0, -13);
        copyFails(x, 0, 0, 1, -1, 0, -13);
        copyFails(x, 0, 1, 1, 1, Integer.MAX_VALUE, -13);
        copyFails(x, 0, Integer.MAX_VALUE, 1, 0, 1, -13);
        copyFails(x, 0, 0, 1, Integer.MAX_VALUE, Integer.MAX_VALUE, -13);
        copyFails(x, 0, 0, 1, 0, Integer.MIN_VALUE, -13);
        row(x, 0, 1, 10, 11, 12, 13, 14);
        row(x, 1, 1, 20, 21, 22, 23);
        row(x, 2, 2, 30, 31, 32, 33, 34);
    }

    private static void copyFails(DunceSee x, int k, int i, int other, int j, int n, int want) {
        String call = "copy(" + k + ", " + i + ", " + other + ", " + j + ", " + n + ")";
        x.sheet(0, 0, -1);
        due.is(call, x.copy(k, i, other, j, n), want);
        due.is(call + " fault()", x.fault(), want > -10 ? 0 : -10 - want);
    }

    private static void telling() {
        DunceSee x = Due.told("c42,3615;p45;d27;u68;p53");
        due.is("tell(-1)", x.tell(-1), -1);
        due.is("tell(4)", x.tell(4), -1);
        due.is("nothing told", x.trace(), 0);
        due.is("a PUPIL's", x.tell(0), 5);
        due.is("TRACE 1", x.trace(), 1);
        due.is("a DEACON's", x.tell(1), 107);
        due.is("TRACE 1 2 1", x.trace(), (1 * 31 + 2) * 31 + 1);
        due.is("a CURATE's", x.tell(2), 116);
        due.is("TRACE 1 2 1 3 2 1 1", x.trace(), trace(1, 2, 1, 3, 2, 1, 1));
        due.is("a PUPIL's", x.tell(3), 3);
        due.is("TRACE .. 1", x.trace(), trace(1, 2, 1, 3, 2, 1, 1, 1));
    }

    private static int trace(int... numbers) {
        int trace = 0;
        for (int number : numbers) {
            trace = 31 * trace + number;
        }
        return trace;
    }

    private static void capping() {
        DunceSee x = Due.told("c42,3615;p45;d27;u68;p53");
        due.is("cap(-1)", x.cap(-1), -1);
        due.is("cap(4)", x.cap(4), -1);
        due.is("nobody is CAPPED", x.trace(), 0);
        int[] want = {0, 1, 70, 3};
        for (int p = 0; p < 4; p++) {
            due.is("cap(" + p + ")", x.cap(p), want[p]);
        }
        due.is("TRACE 4 4 5 4", x.trace(), trace(4, 4, 5, 4));
    }

    private static void takenAs() {
        DunceSee x = Due.told("c42,3615;p45;d27;u68");
        int[] kinds = {-1, 0, 1, 2, 3};
        int[][] want = {{-2, 1, -12, -12, -2}, {-2, 1, 1, -12, -2}, {-2, 1, 1, 1, -2},
            {-1, -1, -1, -1, -1}};
        for (int p = 0; p < want.length; p++) {
            for (int i = 0; i < kinds.length; i++) {
                String call = "as(" + p + ", " + kinds[i] + ")";
                x.put(3, 0, 0);
                due.is(call, x.as(p, kinds[i]), want[p][i]);
                due.is(call + " fault()", x.fault(), want[p][i] == -12 ? 2 : 0);
            }
        }
        due.is("as(-1, 0)", x.as(-1, 0), -1);
        due.is("as leaves no TRACE", x.trace(), 0);
    }

    private static void tracesWrap() {
        DunceSee x = Due.told("c42,3615;p45");
        int want = 0;
        for (int i = 0; i < 40; i++) {
            x.cap(0);
            want = 31 * want + 4;
            due.is("TRACE of " + i, x.trace(), want);
        }
    }

    private static void faultsAreKept() {
        DunceSee x = Due.told("c42,36;p45;d27");
        due.is("as", x.as(0, 2), -12);
        x.ofPupil(0, 0);
        x.ofPupil(9, 0);
        x.hard(0);
        x.ask(0, 3);
        x.teach(0, 4);
        x.doubt(4);
        x.build(2);
        x.would(0, 0, true);
        x.stand(0);
        x.bishop();
        x.best(0);
        x.choose(0, 0);
        x.reading(0, 0, 0);
        x.back(1);
        x.wits(0);
        x.kinds(0);
        x.hards(0);
        x.odds(0, 0);
        x.lose(3);
        x.lose(9);
        x.tell(0);
        x.cap(0);
        x.trace();
        x.many(0);
        due.is("calls that name no FAULTS leave it", x.fault(), 2);
        due.is("a call that names them does not", x.as(0, 0), 1);
        due.is("fault()", x.fault(), 0);
    }
}
