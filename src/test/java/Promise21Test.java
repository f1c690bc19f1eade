import java.util.function.LongSupplier;

/** Promise 21: sheet. */
public final class Promise21Test extends Promises {
    public static void main(String[] args) {
        run(Promise21Test.class);
    }

    @Holds(promise = 21, says = "A SHEET gets a new row: 1.")
    static void aNewRow(Due due) {
        DunceSee x = new DunceSee();
        namesFaults(due, x, "the first row", () -> x.sheet(1, 2, 3), 1);
        x.put(1, 2, 70000);
        namesFaults(due, x, "another row", () -> x.sheet(1, 2, 3), 1);
        due.is("its cells are new", x.cell(1, 2, 2), 0);
        due.is("of another lane", x.sheet(1, 0, 3), 1);
        due.is("taken as that", x.cell(1, 2, 0), 0);
        due.is("of fewer cells", x.sheet(1, 0, 1), 1);
        fails(due, x, "a cell that was", x.put(1, 1, 0), INDEX);
        due.is("of more cells", x.sheet(1, 0, 2), 1);
        due.is("a cell that is again", x.put(1, 1, 5), 1);
        due.is("other SHEETS have nothing", x.lose(0) + x.lose(2) + x.lose(3), 0);
    }

    @Holds(promise = 21, says = "SHEETS 0 .. 3 have nothing (at first), or a row of 0 .. 60 numbers (0 at first)")
    static void noCellsToSixty(Due due) {
        DunceSee x = new DunceSee();
        for (int k = 0; k < 4; k++) {
            due.is("nothing at first", x.lose(k), 0);
            due.is("a row of 0", x.sheet(k, 0, 0), 1);
            fails(due, x, "it has no cell", x.put(k, 0, 0), INDEX);
            due.is("but it is a row", x.lose(k), 1);
            due.is("a row of 60", x.sheet(k, 1, 60), 1);
            due.is("the last cell", x.put(k, 59, k + 1), 1);
            fails(due, x, "one beyond", x.put(k, 60, 0), INDEX);
        }
        for (int k = 0; k < 4; k++) {
            due.is("rows are apart", x.cell(k, 59, 1), k + 1);
            for (int i = 0; i < 59; i++) {
                due.is("0 at first", x.cell(k, i, 1), 0);
            }
        }
    }

    @Holds(promise = 21, says = "(0 at first) of a LANE: 0 bytes, 1 shorts, 2 ints")
    static void rowsThatHadNumbersBefore(Due due) {
        for (int lane = 0; lane < 3; lane++) {
            DunceSee x = new DunceSee();
            x.sheet(3, lane, 60);
            for (int i = 0; i < 60; i++) {
                x.put(3, i, -1);
            }
            x.sheet(3, lane, 20);
            x.sheet(3, lane, 60);
            for (int i = 0; i < 60; i++) {
                due.is("cell " + i, x.cell(3, i, lane), 0);
            }
            x.put(3, 0, -1);
            x.lose(3);
            x.sheet(3, lane, 60);
            due.is("behind lose", x.cell(3, 0, lane), 0);
        }
    }

    @Holds(promise = 21, says = "UNKNOWN")
    static void noSuchSheet(Due due) {
        DunceSee x = new DunceSee();
        for (int k : not(0, 3)) {
            namesFaults(due, x, "sheet(" + k + ", 0, 5)", () -> x.sheet(k, 0, 5), UNKNOWN);
        }
    }

    @Holds(promise = 21, says = "OUTSIDE: lane")
    static void noSuchLane(Due due) {
        DunceSee x = new DunceSee();
        for (int lane : not(0, 2)) {
            namesFaults(due, x, "lane " + lane, () -> x.sheet(0, lane, 5), OUTSIDE);
        }
    }

    @Holds(promise = 21, says = "n above 60")
    static void moreThanSixty(Due due) {
        DunceSee x = new DunceSee();
        for (int n : new int[] {61, 62, GREATEST}) {
            namesFaults(due, x, "n " + n, () -> x.sheet(0, 0, n), OUTSIDE);
        }
        due.is("n 60", x.sheet(0, 0, 60), 1);
    }

    @Holds(promise = 21, says = "SIZE.")
    static void belowZero(Due due) {
        DunceSee x = new DunceSee();
        for (int lane = 0; lane < 3; lane++) {
            fails(due, x, "n -1", x.sheet(0, lane, -1), SIZE);
            fails(due, x, "n of the least", x.sheet(0, lane, LEAST), SIZE);
            namesFaults(due, x, "n 0", rowOfNone(x, lane), 1);
        }
    }

    private static LongSupplier rowOfNone(DunceSee x, int lane) {
        return () -> x.sheet(0, lane, 0);
    }

    @Holds(promise = 21, says = "REFUSALS, in the order in which a call's line tells them")
    static void refusalsInOrder(Due due) {
        DunceSee x = new DunceSee();
        due.is("SHEET, lane, n", x.sheet(4, 3, 61), UNKNOWN);
        due.is("SHEET, SIZE", x.sheet(-1, 0, -1), UNKNOWN);
        namesFaults(due, x, "lane, SIZE", () -> x.sheet(0, 3, -1), OUTSIDE);
        due.is("lane, n", x.sheet(0, -1, 61), OUTSIDE);
    }

    @Holds(promise = 21, says = "they change nothing (but fault(), of a call that names FAULTS)")
    static void nothingIsChanged(Due due) {
        DunceSee x = told(TWO);
        row(x, 1, 1, 7, 8, 9);
        changesNothing(due, x, () -> {
            due.is("UNKNOWN", x.sheet(4, 0, 1), UNKNOWN);
            due.is("OUTSIDE", x.sheet(1, 3, 1), OUTSIDE);
            due.is("OUTSIDE", x.sheet(1, 0, 61), OUTSIDE);
            due.is("SIZE", x.sheet(1, 0, -1), -10 - SIZE);
            due.is("SIZE of nothing", x.sheet(2, 0, -1), -10 - SIZE);
        });
    }
}
