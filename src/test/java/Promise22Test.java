/** Promise 22: lose. */
public final class Promise22Test extends Promises {
    public static void main(String[] args) {
        run(Promise22Test.class);
    }

    @Holds(promise = 22, says = "A SHEET has nothing: 1")
    static void aRowIsLost(Due due) {
        for (int k = 0; k < 4; k++) {
            DunceSee x = new DunceSee();
            for (int any = 0; any < 4; any++) {
                x.sheet(any, 0, 5);
            }
            int lost = k;
            namesNoFaults(due, x, "lose(" + k + ")", () -> x.lose(lost), 1);
            for (int any = 0; any < 4; any++) {
                due.is("put(" + any + ", 0, 0)", x.put(any, 0, 0), any == k ? -10 - NULL : 1);
            }
        }
        DunceSee empty = new DunceSee();
        empty.sheet(2, 0, 0);
        due.is("a row of 0 cells is a row", empty.lose(2), 1);
    }

    @Holds(promise = 22, says = "0: it had nothing.")
    static void itHadNothing(Due due) {
        DunceSee x = new DunceSee();
        namesNoFaults(due, x, "lose(3)", () -> x.lose(3), 0);
        x.sheet(3, 2, 5);
        due.is("a row", x.lose(3), 1);
        due.is("it is lost", x.lose(3), 0);
        due.is("and still", x.lose(3), 0);
    }

    @Holds(promise = 22, says = "UNKNOWN.")
    static void noSuchSheet(Due due) {
        DunceSee x = told(TWO);
        changesNothing(due, x, () -> {
            for (int k : not(0, 3)) {
                namesNoFaults(due, x, "lose(" + k + ")", () -> x.lose(k), UNKNOWN);
            }
        });
    }

    @Holds(promise = 22, says = "A SHEET has nothing")
    static void aSeeStays(Due due) {
        DunceSee x = told(TWO);
        x.lose(0);
        due.is("PUPILS", x.many(0), 2);
        due.is("BISHOP", x.bishop(), 1);
    }
}
