/** Promise 5: ask. */
public final class Promise05Test extends Promises {
    public static void main(String[] args) {
        run(Promise05Test.class);
    }

    @Holds(promise = 5, says = "HARD of a DAY becomes v (0 .. 9): what it was.")
    static void hardBecomes(Due due) {
        DunceSee x = told(TWO);
        due.is("ask(1, 9)", x.ask(1, 9), 6);
        due.is("ask(1, 0)", x.ask(1, 0), 9);
        due.is("hard(1)", x.hard(1), 0);
        due.is("the other DAY", x.hard(0), 3);
        due.is("who STANDS now", x.stand(1), 0);
        due.is("as it is", x.ask(0, 3), 3);
        DunceSee last = told("c42,90715;p45");
        due.is("the last DAY", last.ask(4, 8), 5);
        due.is("the last DAY", last.hard(4), 8);
    }

    @Holds(promise = 5, says = "UNKNOWN")
    static void noSuchDay(Due due) {
        DunceSee x = told(TWO);
        for (int d : not(0, 1)) {
            namesNoFaults(due, x, "ask(" + d + ", 0)", () -> x.ask(d, 0), UNKNOWN);
        }
        due.is("no SEE", new DunceSee().ask(0, 0), UNKNOWN);
    }

    @Holds(promise = 5, says = "OUTSIDE")
    static void noSuchHard(Due due) {
        DunceSee x = told(TWO);
        for (int v : not(0, 9)) {
            namesNoFaults(due, x, "ask(0, " + v + ")", () -> x.ask(0, v), OUTSIDE);
        }
    }

    @Holds(promise = 5, says = "REFUSALS, in the order in which a call's line tells them")
    static void refusalsInOrder(Due due) {
        due.is("DAY and v", told(TWO).ask(2, 10), UNKNOWN);
        due.is("DAY and v", told(TWO).ask(-1, -1), UNKNOWN);
        due.is("DAY and v, no SEE", new DunceSee().ask(0, 10), UNKNOWN);
    }

    @Holds(promise = 5, says = "they change nothing")
    static void refusalsChangeNothing(Due due) {
        DunceSee x = told(TWO);
        x.reading(0, 2, 5);
        changesNothing(due, x, () -> {
            due.is("ask(2, 9)", x.ask(2, 9), UNKNOWN);
            due.is("ask(1, 10)", x.ask(1, 10), OUTSIDE);
            due.is("ask(1, -1)", x.ask(1, -1), OUTSIDE);
        });
    }
}
