/** Promise 24: cell. */
public final class Promise24Test extends Promises {
    public static void main(String[] args) {
        run(Promise24Test.class);
    }

    private static void lost(Due due, DunceSee x, int k, int i, int lane, int fault) {
        String call = "cell(" + k + ", " + i + ", " + lane + ")";
        x.sheet(0, 0, -1);
        due.is(call, x.cell(k, i, lane), LOST);
        due.is("fault() behind " + call, x.fault(), fault);
    }

    @Holds(promise = 24, says = "Cell i of what a SHEET has, taken as a row of a LANE.")
    static void cells(Due due) {
        DunceSee x = new DunceSee();
        for (int lane = 0; lane < 3; lane++) {
            row(x, lane, lane, 10 + lane, -20 - lane, 30 + lane);
        }
        for (int k = 0; k < 3; k++) {
            int lane = k;
            namesFaults(due, x, "the first", () -> x.cell(lane, 0, lane), 10 + k);
            namesFaults(due, x, "the second", () -> x.cell(lane, 1, lane), -20 - k);
            namesFaults(due, x, "the last", () -> x.cell(lane, 2, lane), 30 + k);
        }
        row(x, 3, 2, GREATEST, LEAST);
        due.is("the greatest", x.cell(3, 0, 2), 2147483647L);
        due.is("the least", x.cell(3, 1, 2), -2147483648L);
    }

    @Holds(promise = 24, says = "LOST: UNKNOWN")
    static void noSuchSheet(Due due) {
        DunceSee x = told(TWO);
        for (int k : not(0, 3)) {
            lost(due, x, k, 0, 0, 0);
        }
    }

    @Holds(promise = 24, says = "OUTSIDE: lane")
    static void noSuchLane(Due due) {
        DunceSee x = told(TWO);
        for (int lane : not(0, 2)) {
            lost(due, x, 0, 0, lane, 0);
        }
    }

    @Holds(promise = 24, says = "CAST (nothing is no CAST)")
    static void aRowOfAnotherLane(Due due) {
        for (int is = 0; is < 3; is++) {
            DunceSee x = new DunceSee();
            row(x, 1, is, 7);
            for (int lane = 0; lane < 3; lane++) {
                if (lane != is) {
                    lost(due, x, 1, 0, lane, CAST);
                }
                lost(due, x, 2, 0, lane, NULL);
            }
        }
        DunceSee empty = new DunceSee();
        empty.sheet(1, 1, 0);
        lost(due, empty, 1, 0, 0, CAST);
    }

    @Holds(promise = 24, says = "NULL")
    static void ofNothing(Due due) {
        DunceSee x = told(TWO);
        lost(due, x, 1, 0, 0, NULL);
        x.lose(0);
        lost(due, x, 0, 0, 0, NULL);
    }

    @Holds(promise = 24, says = "INDEX.")
    static void noSuchCell(Due due) {
        for (int lane = 0; lane < 3; lane++) {
            DunceSee x = new DunceSee();
            row(x, 1, lane, 7, 8);
            for (int i : new int[] {-1, 2, 60, LEAST, GREATEST}) {
                lost(due, x, 1, i, lane, INDEX);
            }
            x.sheet(2, lane, 0);
            lost(due, x, 2, 0, lane, INDEX);
            x.sheet(3, lane, 60);
            lost(due, x, 3, 60, lane, INDEX);
        }
    }

    @Holds(promise = 24, says = "FAULTS CAST (nothing is no CAST), NULL, INDEX.")
    static void faultsInOrder(Due due) {
        DunceSee x = told(TWO);
        lost(due, x, 0, -1, 1, CAST);
        lost(due, x, 0, 14, 2, CAST);
        lost(due, x, 1, -1, 1, NULL);
        lost(due, x, 1, 60, 0, NULL);
    }

    @Holds(promise = 24, says = "LOST: UNKNOWN, OUTSIDE: lane; FAULTS")
    static void refusalsAreBeforeFaults(Due due) {
        DunceSee x = told(TWO);
        lost(due, x, 4, -1, 3, 0);
        lost(due, x, 4, -1, 1, 0);
        lost(due, x, 1, 0, 3, 0);
        lost(due, x, 0, 99, -1, 0);
    }

    @Holds(promise = 24, says = "(LOST, where a long is answered, as for refusals) and changes nothing")
    static void nothingIsChanged(Due due) {
        DunceSee x = told(TWO);
        row(x, 1, 1, 7, 8, 9);
        changesNothing(due, x, () -> {
            due.is("UNKNOWN", x.cell(4, 0, 0), LOST);
            due.is("OUTSIDE", x.cell(1, 0, 3), LOST);
            due.is("CAST", x.cell(1, 0, 0), LOST);
            due.is("NULL", x.cell(2, 0, 0), LOST);
            due.is("INDEX", x.cell(1, 3, 1), LOST);
            due.is("a cell", x.cell(1, 2, 1), 9);
        });
    }
}
