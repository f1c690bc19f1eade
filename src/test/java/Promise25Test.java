/** Promise 25: copy. */
public final class Promise25Test extends Promises {
    public static void main(String[] args) {
        run(Promise25Test.class);
    }

    /** Rows of five and four shorts, and of five ints; SHEET 3 has nothing. */
    private static DunceSee rows() {
        DunceSee x = new DunceSee();
        row(x, 0, 1, 10, 11, 12, 13, 14);
        row(x, 1, 1, 20, 21, 22, 23);
        row(x, 2, 2, 30, 31, 32, 33, 34);
        return x;
    }

    private static void isRow(Due due, DunceSee x, int k, int lane, int... want) {
        for (int i = 0; i < want.length; i++) {
            due.is("cell " + i + " of SHEET " + k, x.cell(k, i, lane), want[i]);
        }
    }

    @Holds(promise = 25, says = "n cells of a SHEET from i on go to another one (perhaps the same) from j on, as they were: n.")
    static void toAnother(Due due) {
        DunceSee x = rows();
        namesFaults(due, x, "two", () -> x.copy(0, 3, 1, 1, 2), 2);
        isRow(due, x, 1, 1, 20, 13, 14, 23);
        isRow(due, x, 0, 1, 10, 11, 12, 13, 14);
        due.is("all of a row", x.copy(1, 0, 0, 1, 4), 4);
        isRow(due, x, 0, 1, 10, 20, 13, 14, 23);
        for (int lane = 0; lane < 3; lane++) {
            row(x, 2, lane, -1, -2, -3);
            row(x, 3, lane, 1, 2, 3);
            due.is("of lane " + lane, x.copy(2, 1, 3, 0, 2), 2);
            isRow(due, x, 3, lane, -2, -3, 3);
        }
        row(x, 2, 0, new int[60]);
        row(x, 3, 0, new int[60]);
        x.put(2, 59, 9);
        due.is("all of sixty", x.copy(2, 0, 3, 0, 60), 60);
        due.is("the last of sixty", x.cell(3, 59, 0), 9);
    }

    @Holds(promise = 25, says = "(perhaps the same) from j on, as they were")
    static void withinOneRow(Due due) {
        DunceSee x = rows();
        due.is("forth", x.copy(0, 0, 0, 1, 4), 4);
        isRow(due, x, 0, 1, 10, 10, 11, 12, 13);
        due.is("back", x.copy(0, 2, 0, 0, 3), 3);
        isRow(due, x, 0, 1, 11, 12, 13, 12, 13);
        due.is("to where they are", x.copy(0, 0, 0, 0, 5), 5);
        isRow(due, x, 0, 1, 11, 12, 13, 12, 13);
    }

    @Holds(promise = 25, says = "UNKNOWN")
    static void noSuchSheet(Due due) {
        DunceSee x = rows();
        for (int k : not(0, 3)) {
            namesFaults(due, x, "from " + k, () -> x.copy(k, 0, 1, 0, 1), UNKNOWN);
            namesFaults(due, x, "to " + k, () -> x.copy(0, 0, k, 0, 1), UNKNOWN);
        }
    }

    @Holds(promise = 25, says = "NULL (the first, the other)")
    static void ofNothing(Due due) {
        DunceSee x = rows();
        fails(due, x, "the first", x.copy(3, 0, 0, 0, 1), NULL);
        fails(due, x, "the other", x.copy(0, 0, 3, 0, 1), NULL);
        fails(due, x, "both", x.copy(3, 0, 3, 0, 0), NULL);
        x.lose(0);
        fails(due, x, "what is lost", x.copy(0, 0, 1, 0, 0), NULL);
    }

    @Holds(promise = 25, says = "CAST (unlike LANES)")
    static void unlikeLanes(Due due) {
        for (int lane = 0; lane < 3; lane++) {
            for (int other = 0; other < 3; other++) {
                DunceSee x = new DunceSee();
                row(x, 0, lane, 1, 2);
                row(x, 1, other, 3, 4);
                if (lane == other) {
                    due.is("alike", x.copy(0, 0, 1, 0, 2), 2);
                } else {
                    fails(due, x, lane + " to " + other, x.copy(0, 0, 1, 0, 2), CAST);
                    fails(due, x, "no cells", x.copy(0, 0, 1, 0, 0), CAST);
                }
            }
        }
    }

    @Holds(promise = 25, says = "INDEX: i, j, n below 0")
    static void belowZero(Due due) {
        DunceSee x = rows();
        for (int below : new int[] {-1, LEAST}) {
            fails(due, x, "i " + below, x.copy(0, below, 1, 0, 1), INDEX);
            fails(due, x, "j " + below, x.copy(0, 0, 1, below, 1), INDEX);
            fails(due, x, "n " + below, x.copy(0, 0, 1, 0, below), INDEX);
            fails(due, x, "n " + below + " from 1 on", x.copy(0, 1, 1, 1, below), INDEX);
        }
    }

    @Holds(promise = 25, says = "or beyond.")
    static void beyond(Due due) {
        DunceSee x = rows();
        fails(due, x, "i at the end", x.copy(0, 5, 1, 0, 1), INDEX);
        fails(due, x, "j at the end", x.copy(0, 0, 1, 4, 1), INDEX);
        fails(due, x, "n beyond the other", x.copy(0, 0, 1, 0, 5), INDEX);
        fails(due, x, "n beyond the first", x.copy(1, 0, 0, 0, 5), INDEX);
        fails(due, x, "i and n", x.copy(0, 2, 1, 0, 4), INDEX);
        fails(due, x, "j and n", x.copy(0, 0, 1, 1, 4), INDEX);
        fails(due, x, "n of the most", x.copy(0, 0, 1, 0, GREATEST), INDEX);
        fails(due, x, "sums that wrap", x.copy(0, 1, 1, 1, GREATEST), INDEX);
        fails(due, x, "sums that wrap", x.copy(0, GREATEST, 1, 0, 1), INDEX);
        fails(due, x, "sums that wrap", x.copy(0, 0, 1, GREATEST, 1), INDEX);
        fails(due, x, "sums that wrap", x.copy(0, GREATEST, 1, GREATEST, GREATEST), INDEX);
        due.is("just to the end", x.copy(0, 1, 1, 0, 4), 4);
    }

    @Holds(promise = 25, says = "(of cells from i on also where i is not 0 .. how many there are, if none of them is taken, too)")
    static void noneOfTheCells(Due due) {
        DunceSee x = rows();
        fails(due, x, "none from -1 on", x.copy(0, -1, 1, 0, 0), INDEX);
        fails(due, x, "none to -1", x.copy(0, 0, 1, -1, 0), INDEX);
        fails(due, x, "none behind the end", x.copy(0, 6, 1, 0, 0), INDEX);
        fails(due, x, "none to behind the end", x.copy(0, 0, 1, 5, 0), INDEX);
        namesFaults(due, x, "none from the end to the end", () -> x.copy(0, 5, 1, 4, 0), 0);
        namesFaults(due, x, "none from the beginning", () -> x.copy(0, 0, 1, 0, 0), 0);
        x.sheet(3, 1, 0);
        namesFaults(due, x, "none of none", () -> x.copy(3, 0, 0, 0, 0), 0);
        isRow(due, x, 0, 1, 10, 11, 12, 13, 14);
        isRow(due, x, 1, 1, 20, 21, 22, 23);
    }

    @Holds(promise = 25, says = "UNKNOWN; FAULTS NULL (the first, the other), CAST (unlike LANES), INDEX")
    static void inOrder(Due due) {
        DunceSee x = rows();
        due.is("SHEET, nothing", x.copy(4, 0, 3, 0, 0), UNKNOWN);
        due.is("nothing, SHEET", x.copy(3, 0, -1, 0, 0), UNKNOWN);
        due.is("SHEET, INDEX", x.copy(0, -1, 4, -1, -1), UNKNOWN);
        fails(due, x, "nothing, INDEX", x.copy(3, -1, 0, -1, -1), NULL);
        fails(due, x, "to nothing, INDEX", x.copy(0, -1, 3, -1, -1), NULL);
        fails(due, x, "CAST, INDEX", x.copy(0, -1, 2, -1, -1), CAST);
        fails(due, x, "CAST, INDEX", x.copy(2, 9, 0, 9, 9), CAST);
    }

    @Holds(promise = 25, says = "and changes nothing; fault() tells it.")
    static void nothingIsChanged(Due due) {
        DunceSee x = rows();
        changesNothing(due, x, () -> {
            due.is("UNKNOWN", x.copy(0, 0, 4, 0, 1), UNKNOWN);
            due.is("UNKNOWN", x.copy(4, 0, 0, 0, 1), UNKNOWN);
            fails(due, x, "NULL", x.copy(3, 0, 0, 0, 1), NULL);
            fails(due, x, "NULL", x.copy(0, 0, 3, 0, 1), NULL);
            fails(due, x, "CAST", x.copy(0, 0, 2, 0, 1), CAST);
            fails(due, x, "some cells are there", x.copy(0, 3, 1, 0, 3), INDEX);
            fails(due, x, "some places are there", x.copy(0, 0, 1, 2, 3), INDEX);
        });
    }
}
