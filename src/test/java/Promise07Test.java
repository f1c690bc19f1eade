/** Promise 7: doubt. */
public final class Promise07Test extends Promises {
    public static void main(String[] args) {
        run(Promise07Test.class);
    }

    @Holds(promise = 7, says = "DOUBT becomes v (0 .. 9): what it was.")
    static void doubtBecomes(Due due) {
        DunceSee x = told(TWO);
        due.is("doubt(9)", x.doubt(9), 4);
        due.is("would now", x.would(0, 0, true), 1);
        due.is("doubt(0)", x.doubt(0), 9);
        due.is("DOUBT", x.many(2), 0);
        due.is("would not now", x.would(0, 0, true), 0);
        due.is("as it is", x.doubt(0), 0);
    }

    @Holds(promise = 7, says = "OUTSIDE")
    static void noSuchDoubt(Due due) {
        DunceSee x = told(TWO);
        for (int v : not(0, 9)) {
            namesNoFaults(due, x, "doubt(" + v + ")", () -> x.doubt(v), OUTSIDE);
        }
    }

    @Holds(promise = 7, says = "STATE: there is no SEE.")
    static void noSee(Due due) {
        DunceSee x = new DunceSee();
        namesNoFaults(due, x, "doubt(0)", () -> x.doubt(0), STATE);
        namesNoFaults(due, x, "doubt(9)", () -> x.doubt(9), STATE);
        due.is("a text that is not taken", see(x, 0, "c42,36;p4"), -109);
        due.is("doubt(9)", x.doubt(9), STATE);
        due.is("a text that is taken", see(x, 0, TWO), 2);
        due.is("doubt(9)", x.doubt(9), 4);
    }

    @Holds(promise = 7, says = "REFUSALS, in the order in which a call's line tells them")
    static void refusalsInOrder(Due due) {
        due.is("v, no SEE", new DunceSee().doubt(-1), OUTSIDE);
        due.is("v, no SEE", new DunceSee().doubt(10), OUTSIDE);
    }

    @Holds(promise = 7, says = "they change nothing")
    static void refusalsChangeNothing(Due due) {
        DunceSee x = told(TWO);
        changesNothing(due, x, () -> {
            due.is("doubt(10)", x.doubt(10), OUTSIDE);
            due.is("doubt(-1)", x.doubt(-1), OUTSIDE);
        });
        DunceSee none = new DunceSee();
        changesNothing(due, none, () -> due.is("doubt(9)", none.doubt(9), STATE));
    }
}
