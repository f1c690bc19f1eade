/** Promise 30: fault. */
public final class Promise30Test extends Promises {
    public static void main(String[] args) {
        run(Promise30Test.class);
    }

    @Holds(promise = 30, says = "The FAULT of the latest call that names one")
    static void ofEachCallThatNamesOne(Due due) {
        DunceSee x = told(TWO);
        fails(due, x, "see", x.see(1, 0, 0, 1), NULL);
        fails(due, x, "plan", x.plan(0, 1, 0, 2, 0), CAST);
        fails(due, x, "sheet", x.sheet(1, 0, -1), SIZE);
        fails(due, x, "put", x.put(0, 14, 0), INDEX);
        due.is("cell", x.cell(0, 0, 1), LOST);
        due.is("fault()", x.fault(), CAST);
        fails(due, x, "copy", x.copy(0, 0, 1, 0, 1), NULL);
        fails(due, x, "as", x.as(0, 1), CAST);
        due.is("and still", x.fault(), CAST);
    }

    @Holds(promise = 30, says = "latest call that names one")
    static void otherCallsLeaveIt(Due due) {
        DunceSee x = told(TWO);
        x.as(0, 2);
        x.ofPupil(0, 0);
        x.ofPupil(9, 0);
        x.hard(0);
        x.ask(0, 3);
        x.ask(0, 10);
        x.teach(0, 4);
        x.doubt(4);
        x.build(2);
        x.would(0, 0, true);
        x.stand(0);
        x.bishop();
        x.best(0);
        x.choose(0, 0);
        x.reading(0, 0, 0);
        x.back(1);
        x.wits(0);
        x.kinds(0);
        x.hards(0);
        x.odds(0, 0);
        x.odds(9, 9);
        x.lose(3);
        x.lose(9);
        x.tell(0);
        x.cap(0);
        x.trace();
        x.many(0);
        due.is("fault()", x.fault(), CAST);
    }

    @Holds(promise = 30, says = "0: it came to none")
    static void itCameToNone(Due due) {
        DunceSee x = told(TWO);
        row(x, 1, 2, 0, 0);
        namesFaults(due, x, "see", () -> x.see(0, 0, 0, 14), 2);
        namesFaults(due, x, "see of a wrong text", () -> x.see(0, 0, 0, 13), -113);
        namesFaults(due, x, "plan", () -> x.plan(1, 2, 0, 2, 0), 1);
        namesFaults(due, x, "plan answering NONE", () -> x.plan(1, 2, 0, 2, 13), NONE);
        namesFaults(due, x, "sheet", () -> x.sheet(2, 0, 1), 1);
        namesFaults(due, x, "put", () -> x.put(2, 0, 1), 1);
        namesFaults(due, x, "cell", () -> x.cell(2, 0, 0), 1);
        namesFaults(due, x, "copy", () -> x.copy(2, 0, 0, 0, 1), 1);
        namesFaults(due, x, "as", () -> x.as(1, 1), 1);
    }

    @Holds(promise = 30, says = "or was refused")
    static void itWasRefused(Due due) {
        DunceSee x = told(TWO);
        row(x, 1, 2, 0, 0, 4);
        namesFaults(due, x, "see", () -> x.see(4, 0, 0, 1), UNKNOWN);
        namesFaults(due, x, "see", () -> x.see(0, 3, 0, 1), OUTSIDE);
        namesFaults(due, x, "plan", () -> x.plan(4, 0, 0, 1, 0), UNKNOWN);
        namesFaults(due, x, "plan", () -> x.plan(1, 3, 0, 1, 0), OUTSIDE);
        namesFaults(due, x, "plan", () -> x.plan(1, 2, 0, 1, 0), OUTSIDE);
        namesFaults(due, x, "plan", () -> x.plan(1, 2, 1, 2, 0), OUTSIDE);
        namesFaults(due, x, "sheet", () -> x.sheet(4, 0, 1), UNKNOWN);
        namesFaults(due, x, "sheet", () -> x.sheet(0, 0, 61), OUTSIDE);
        namesFaults(due, x, "put", () -> x.put(4, 0, 0), UNKNOWN);
        namesFaults(due, x, "cell", () -> x.cell(4, 0, 0), LOST);
        namesFaults(due, x, "cell", () -> x.cell(0, 0, 3), LOST);
        namesFaults(due, x, "copy", () -> x.copy(0, 0, 4, 0, 1), UNKNOWN);
        namesFaults(due, x, "as", () -> x.as(2, 0), UNKNOWN);
        namesFaults(due, x, "as", () -> x.as(0, 3), OUTSIDE);
        DunceSee none = new DunceSee();
        row(none, 1, 2, 0, 0);
        namesFaults(due, none, "plan", () -> none.plan(1, 2, 0, 2, 0), STATE);
    }

    @Holds(promise = 30, says = "(0 ahead of any)")
    static void aheadOfAny(Due due) {
        DunceSee x = new DunceSee();
        due.is("fault()", x.fault(), 0);
        x.bishop();
        x.lose(0);
        x.odds(0, 0);
        due.is("behind calls that name none", x.fault(), 0);
    }

    @Holds(promise = 30, says = "FAULTS are the machine's: 1 NULL (there is nothing), 2 CAST (it is of another lane, kind), 3 INDEX")
    static void numbersOfFaults(Due due) {
        DunceSee x = told(TWO);
        x.put(1, 0, 0);
        due.is("NULL", x.fault(), 1);
        x.as(0, 1);
        due.is("CAST", x.fault(), 2);
        x.put(0, 14, 0);
        due.is("INDEX", x.fault(), 3);
        x.sheet(0, 0, -1);
        due.is("SIZE", x.fault(), 4);
    }
}
