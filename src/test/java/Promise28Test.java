/** Promise 28: as. */
public final class Promise28Test extends Promises {
    public static void main(String[] args) {
        run(Promise28Test.class);
    }

    @Holds(promise = 28, says = "A PUPIL, taken as one of a kind: 1.")
    static void asWhatTheyAre(Due due) {
        DunceSee x = told("c11,1;p15;d15;u15");
        for (int kind = 0; kind < 3; kind++) {
            int one = kind;
            namesFaults(due, x, "as(" + kind + ", " + kind + ")", () -> x.as(one, one), 1);
        }
        due.is("no body begins", x.trace(), 0);
    }

    @Holds(promise = 28, says = "(each is a PUPIL, too; a CURATE is a DEACON)")
    static void asWhatTheyAreToo(Due due) {
        DunceSee x = told("c11,1;p15;d15;u15");
        namesFaults(due, x, "a DEACON as a PUPIL", () -> x.as(1, 0), 1);
        namesFaults(due, x, "a CURATE as a PUPIL", () -> x.as(2, 0), 1);
        namesFaults(due, x, "a CURATE as a DEACON", () -> x.as(2, 1), 1);
    }

    @Holds(promise = 28, says = "1 DEACON (d), a PUPIL; 2 CURATE (u), a DEACON.")
    static void kindsAreKept(Due due) {
        DunceSee x = told("c11,1;u15");
        x.as(0, 0);
        x.as(0, 1);
        due.is("still a CURATE", x.ofPupil(0, 0), 2);
        due.is("still a CURATE", x.cap(0), 70);
    }

    @Holds(promise = 28, says = "CAST: they are none")
    static void asWhatTheyAreNot(Due due) {
        DunceSee x = told("c11,1;p15;d15;u15");
        fails(due, x, "a PUPIL as a DEACON", x.as(0, 1), CAST);
        fails(due, x, "a PUPIL as a CURATE", x.as(0, 2), CAST);
        fails(due, x, "a DEACON as a CURATE", x.as(1, 2), CAST);
    }

    @Holds(promise = 28, says = "UNKNOWN")
    static void noSuchPupil(Due due) {
        DunceSee x = told(TWO);
        for (int p : not(0, 1)) {
            namesFaults(due, x, "as(" + p + ", 0)", () -> x.as(p, 0), UNKNOWN);
        }
        DunceSee none = new DunceSee();
        namesFaults(due, none, "no SEE", () -> none.as(0, 0), UNKNOWN);
    }

    @Holds(promise = 28, says = "OUTSIDE")
    static void noSuchKind(Due due) {
        DunceSee x = told(FOUR);
        for (int kind : not(0, 2)) {
            namesFaults(due, x, "as(0, " + kind + ")", () -> x.as(0, kind), OUTSIDE);
            namesFaults(due, x, "as(2, " + kind + ")", () -> x.as(2, kind), OUTSIDE);
        }
    }

    @Holds(promise = 28, says = "REFUSALS, in the order in which a call's line tells them")
    static void refusalsInOrder(Due due) {
        due.is("PUPIL, kind", told(TWO).as(2, 3), UNKNOWN);
        due.is("PUPIL, kind", told(TWO).as(-1, -1), UNKNOWN);
        due.is("PUPIL, kind, no SEE", new DunceSee().as(0, 3), UNKNOWN);
    }

    @Holds(promise = 28, says = "it answers -10 less it")
    static void nothingIsChanged(Due due) {
        DunceSee x = told(FOUR);
        changesNothing(due, x, () -> {
            due.is("CAST", x.as(0, 2), -12);
            due.is("UNKNOWN", x.as(4, 0), UNKNOWN);
            due.is("OUTSIDE", x.as(0, 3), OUTSIDE);
            due.is("a CURATE", x.as(2, 0), 1);
        });
    }
}
