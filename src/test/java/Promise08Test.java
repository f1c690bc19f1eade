/** Promise 8: build. */
public final class Promise08Test extends Promises {
    public static void main(String[] args) {
        run(Promise08Test.class);
    }

    @Holds(promise = 8, says = "ROOM becomes v (1 .. 4): what it was.")
    static void roomBecomes(Due due) {
        DunceSee x = told(FOUR);
        due.is("build(4)", x.build(4), 2);
        due.is("who STANDS now", x.stand(1), 11);
        due.is("build(1)", x.build(1), 4);
        due.is("ROOM", x.many(3), 1);
        due.is("who STANDS now", x.stand(1), 2);
        due.is("as it is", x.build(1), 1);
    }

    @Holds(promise = 8, says = "OUTSIDE")
    static void noSuchRoom(Due due) {
        DunceSee x = told(TWO);
        for (int v : not(1, 4)) {
            namesNoFaults(due, x, "build(" + v + ")", () -> x.build(v), OUTSIDE);
        }
        due.is("build(-1)", x.build(-1), OUTSIDE);
    }

    @Holds(promise = 8, says = "OUTSIDE (another number is not as told)")
    static void asIsToldOfRoom(Due due) {
        DunceSee x = told(TWO);
        for (int v = -1; v <= 10; v++) {
            due.is("DOUBT " + v, x.doubt(v) == OUTSIDE ? 0 : 1, v >= 0 && v <= 9 ? 1 : 0);
            due.is("ROOM " + v, x.build(v) == OUTSIDE ? 0 : 1, v >= 1 && v <= 4 ? 1 : 0);
        }
    }

    @Holds(promise = 8, says = "STATE: there is no SEE.")
    static void noSee(Due due) {
        DunceSee x = new DunceSee();
        namesNoFaults(due, x, "build(1)", () -> x.build(1), STATE);
        namesNoFaults(due, x, "build(4)", () -> x.build(4), STATE);
        due.is("a text that is not taken", see(x, 0, "c42,36;p4"), -109);
        due.is("build(4)", x.build(4), STATE);
        due.is("a text that is taken", see(x, 0, TWO), 2);
        due.is("build(4)", x.build(4), 2);
    }

    @Holds(promise = 8, says = "REFUSALS, in the order in which a call's line tells them")
    static void refusalsInOrder(Due due) {
        due.is("v, no SEE", new DunceSee().build(0), OUTSIDE);
        due.is("v, no SEE", new DunceSee().build(5), OUTSIDE);
    }

    @Holds(promise = 8, says = "they change nothing")
    static void refusalsChangeNothing(Due due) {
        DunceSee x = told(TWO);
        changesNothing(due, x, () -> {
            due.is("build(5)", x.build(5), OUTSIDE);
            due.is("build(0)", x.build(0), OUTSIDE);
        });
        DunceSee none = new DunceSee();
        changesNothing(due, none, () -> due.is("build(4)", none.build(4), STATE));
    }
}
