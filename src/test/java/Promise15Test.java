/** Promise 15: reading. */
public final class Promise15Test extends Promises {
    public static void main(String[] args) {
        run(Promise15Test.class);
    }

    @Holds(promise = 15, says = "A READING: its number.")
    static void numbers(Due due) {
        DunceSee x = told(TWO);
        due.is("the first", x.reading(0, 2, 5), 0);
        due.is("READINGS", x.many(4), 1);
        due.is("the same once more", x.reading(0, 2, 5), 1);
        due.is("one that is not so", x.reading(1, 1, 99), 2);
        due.is("READINGS", x.many(4), 3);
        namesNoFaults(due, x, "another", () -> x.reading(1, 0, 0), 3);
    }

    @Holds(promise = 15, says = "READINGS, 8 at most, numbered by how many there are")
    static void eightAtMost(Due due) {
        DunceSee x = told(TWO);
        for (int r = 0; r < 8; r++) {
            due.is("READING " + r, x.reading(0, 0, 0), r);
            due.is("how many", x.many(4), r + 1);
        }
        due.is("a ninth", x.reading(0, 0, 0), FULL);
        x.back(3);
        due.is("numbered anew", x.reading(0, 0, 0), 5);
    }

    @Holds(promise = 15, says = "nobody PRETENDED, and behind so many DAYS a PUPIL had so many HOURS.")
    static void theFirstDaysAreRead(Due due) {
        DunceSee x = told("c94,939;p55");
        int[] hours = {0, 5, 5, 10};
        for (int t = 0; t <= 3; t++) {
            x.reading(0, t, hours[t]);
            due.is("behind " + t + " DAYS as it was", x.kinds(0), t == 0 ? 7 : 1);
            x.back(1);
            x.reading(0, t, hours[t] + 1);
            due.is("behind " + t + " DAYS one more", x.wits(0), 0);
            x.back(1);
        }
        x.reading(0, 3, 15);
        due.is("who would if pretending", x.wits(0), 7);
    }

    @Holds(promise = 15, says = "UNKNOWN")
    static void noSuchPupil(Due due) {
        DunceSee x = told(TWO);
        for (int p : not(0, 1)) {
            namesNoFaults(due, x, "reading(" + p + ", 0, 0)", () -> x.reading(p, 0, 0), UNKNOWN);
        }
        due.is("no SEE", new DunceSee().reading(0, 0, 0), UNKNOWN);
    }

    @Holds(promise = 15, says = "OUTSIDE: t (0 .. as many as there are DAYS)")
    static void asManyDaysAsThereAre(Due due) {
        DunceSee x = told(TWO);
        for (int t : not(0, 2)) {
            namesNoFaults(due, x, "t " + t, () -> x.reading(0, t, 0), OUTSIDE);
        }
        for (int t = 0; t <= 2; t++) {
            due.is("t " + t, x.reading(0, t, 0), t);
        }
        due.is("t 5 of five", told("c42,36512;p45").reading(0, 5, 0), 0);
        due.is("t 6 of five", told("c42,36512;p45").reading(0, 6, 0), OUTSIDE);
        due.is("t 1 of one", told("c42,3;p45").reading(0, 1, 0), 0);
        due.is("t 2 of one", told("c42,3;p45").reading(0, 2, 0), OUTSIDE);
    }

    @Holds(promise = 15, says = "v (0 .. 99)")
    static void zeroToNinetyNineHours(Due due) {
        DunceSee x = told(TWO);
        for (int v : not(0, 99)) {
            namesNoFaults(due, x, "v " + v, () -> x.reading(0, 0, v), OUTSIDE);
        }
        due.is("v 0", x.reading(0, 0, 0), 0);
        due.is("v 99", x.reading(0, 0, 99), 1);
    }

    @Holds(promise = 15, says = "FULL.")
    static void full(Due due) {
        DunceSee x = told(TWO);
        for (int r = 0; r < 7; r++) {
            x.reading(0, 0, 0);
        }
        due.is("the eighth", x.reading(0, 0, 0), 7);
        namesNoFaults(due, x, "the ninth", () -> x.reading(0, 0, 0), FULL);
        due.is("the ninth again", x.reading(1, 2, 99), FULL);
        x.back(1);
        due.is("the eighth anew", x.reading(0, 0, 0), 7);
        see(x, 1, TWO);
        due.is("the first of a new SEE", x.reading(0, 0, 0), 0);
    }

    @Holds(promise = 15, says = "REFUSALS, in the order in which a call's line tells them")
    static void refusalsInOrder(Due due) {
        DunceSee x = told(TWO);
        due.is("PUPIL, t, v", x.reading(2, 3, 100), UNKNOWN);
        for (int r = 0; r < 8; r++) {
            x.reading(0, 0, 0);
        }
        due.is("PUPIL, FULL", x.reading(2, 0, 0), UNKNOWN);
        due.is("PUPIL, t, FULL", x.reading(-1, 3, 0), UNKNOWN);
        due.is("t, FULL", x.reading(0, 3, 0), OUTSIDE);
        due.is("v, FULL", x.reading(0, 0, 100), OUTSIDE);
        due.is("PUPIL, t, no SEE", new DunceSee().reading(0, 1, 0), UNKNOWN);
    }

    @Holds(promise = 15, says = "they change nothing")
    static void refusalsChangeNothing(Due due) {
        DunceSee x = told(TWO);
        x.reading(0, 2, 5);
        changesNothing(due, x, () -> {
            due.is("UNKNOWN", x.reading(2, 0, 9), UNKNOWN);
            due.is("OUTSIDE", x.reading(0, 3, 9), OUTSIDE);
            due.is("OUTSIDE", x.reading(0, 0, 100), OUTSIDE);
        });
    }

    @Holds(promise = 15, says = "FULL; they change nothing")
    static void aNinthChangesNothing(Due due) {
        DunceSee x = told(TWO);
        for (int r = 0; r < 8; r++) {
            x.reading(1, 1, 6);
        }
        changesNothing(due, x, () -> due.is("FULL", x.reading(0, 0, 9), FULL));
        due.is("back(1)", x.back(1), 7);
        due.is("the eighth was not the ninth", x.wits(1), 7);
    }
}
