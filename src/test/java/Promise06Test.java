/** Promise 6: teach. */
public final class Promise06Test extends Promises {
    public static void main(String[] args) {
        run(Promise06Test.class);
    }

    @Holds(promise = 6, says = "WIT of a PUPIL becomes v (0 .. 9): what it was.")
    static void witBecomes(Due due) {
        DunceSee x = told(TWO);
        due.is("teach(1, 9)", x.teach(1, 9), 2);
        due.is("who STANDS now", x.stand(0), 0);
        due.is("teach(1, 0)", x.teach(1, 0), 9);
        due.is("WIT", x.ofPupil(1, 1), 0);
        due.is("WIT of the other", x.ofPupil(0, 1), 4);
        due.is("who STANDS now", x.stand(0), 2);
        due.is("as it is", x.teach(0, 4), 4);
        DunceSee last = told(FOUR);
        due.is("the last PUPIL", last.teach(3, 8), 5);
        due.is("the last PUPIL", last.ofPupil(3, 1), 8);
    }

    @Holds(promise = 6, says = "UNKNOWN")
    static void noSuchPupil(Due due) {
        DunceSee x = told(TWO);
        for (int p : not(0, 1)) {
            namesNoFaults(due, x, "teach(" + p + ", 0)", () -> x.teach(p, 0), UNKNOWN);
        }
        due.is("no SEE", new DunceSee().teach(0, 0), UNKNOWN);
    }

    @Holds(promise = 6, says = "OUTSIDE")
    static void noSuchWit(Due due) {
        DunceSee x = told(TWO);
        for (int v : not(0, 9)) {
            namesNoFaults(due, x, "teach(0, " + v + ")", () -> x.teach(0, v), OUTSIDE);
        }
    }

    @Holds(promise = 6, says = "REFUSALS, in the order in which a call's line tells them")
    static void refusalsInOrder(Due due) {
        due.is("PUPIL and v", told(TWO).teach(2, 10), UNKNOWN);
        due.is("PUPIL and v", told(TWO).teach(-1, -1), UNKNOWN);
        due.is("PUPIL and v, no SEE", new DunceSee().teach(0, 10), UNKNOWN);
    }

    @Holds(promise = 6, says = "they change nothing")
    static void refusalsChangeNothing(Due due) {
        DunceSee x = told(TWO);
        x.reading(0, 2, 5);
        changesNothing(due, x, () -> {
            due.is("teach(2, 9)", x.teach(2, 9), UNKNOWN);
            due.is("teach(1, 10)", x.teach(1, 10), OUTSIDE);
            due.is("teach(1, -1)", x.teach(1, -1), OUTSIDE);
        });
    }
}
