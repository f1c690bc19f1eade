/** Promise 3: ofPupil. */
public final class Promise03Test extends Promises {
    public static void main(String[] args) {
        run(Promise03Test.class);
    }

    @Holds(promise = 3, says = "Of a PUPIL: 0 kind, 1 WIT, 2 PATIENCE, 3 HOURS of a DAY.")
    static void whatIsTold(Due due) {
        DunceSee x = told(FOUR);
        int[][] want = {{0, 4, 5, 5}, {1, 2, 7, 6}, {2, 6, 8, 4}, {0, 5, 3, 3}};
        for (int p = 0; p < 4; p++) {
            for (int what = 0; what < 4; what++) {
                due.is("ofPupil(" + p + ", " + what + ")", x.ofPupil(p, what), want[p][what]);
            }
        }
    }

    @Holds(promise = 3, says = "Kinds: 0 PUPIL (p); 1 DEACON (d), a PUPIL; 2 CURATE (u), a DEACON.")
    static void kinds(Due due) {
        DunceSee x = told("c11,1;u00;d00;p00;u00");
        int[] want = {2, 1, 0, 2};
        for (int p = 0; p < 4; p++) {
            due.is("kind of " + p, x.ofPupil(p, 0), want[p]);
        }
    }

    @Holds(promise = 3, says = "HOURS of a DAY on which one STANDS: of a PUPIL PATIENCE")
    static void hoursOfAPupil(Due due) {
        for (int patience = 0; patience <= 9; patience++) {
            due.is("HOURS", told("c11,1;p5" + patience).ofPupil(0, 3), patience);
        }
    }

    @Holds(promise = 3, says = "of a DEACON 1 less (0 at least)")
    static void hoursOfADeacon(Due due) {
        int[] want = {0, 0, 1, 2, 3, 4, 5, 6, 7, 8};
        for (int patience = 0; patience <= 9; patience++) {
            due.is("HOURS", told("c11,1;d5" + patience).ofPupil(0, 3), want[patience]);
        }
    }

    @Holds(promise = 3, says = "of a CURATE half of what a PUPIL's are.")
    static void hoursOfACurate(Due due) {
        int[] want = {0, 0, 1, 1, 2, 2, 3, 3, 4, 4};
        for (int patience = 0; patience <= 9; patience++) {
            due.is("HOURS", told("c11,1;u5" + patience).ofPupil(0, 3), want[patience]);
        }
    }

    @Holds(promise = 3, says = "Quotients are cut.")
    static void halvesAreCut(Due due) {
        due.is("half of 1", told("c11,1;u51").ofPupil(0, 3), 0);
        due.is("half of 9", told("c11,1;u59").ofPupil(0, 3), 4);
    }

    @Holds(promise = 3, says = "UNKNOWN")
    static void noSuchPupil(Due due) {
        DunceSee x = told(TWO);
        for (int p : not(0, 1)) {
            namesNoFaults(due, x, "ofPupil(" + p + ", 0)", () -> x.ofPupil(p, 0), UNKNOWN);
        }
        due.is("a fifth", told(FOUR).ofPupil(4, 0), UNKNOWN);
    }

    @Holds(promise = 3, says = "OUTSIDE")
    static void nothingOfThatNumber(Due due) {
        DunceSee x = told(TWO);
        for (int what : not(0, 3)) {
            namesNoFaults(due, x, "ofPupil(1, " + what + ")", () -> x.ofPupil(1, what), OUTSIDE);
        }
    }

    @Holds(promise = 3, says = "REFUSALS, in the order in which a call's line tells them")
    static void refusalsInOrder(Due due) {
        due.is("PUPIL and what", told(TWO).ofPupil(2, 4), UNKNOWN);
        due.is("PUPIL and what", told(TWO).ofPupil(-1, -1), UNKNOWN);
        due.is("PUPIL and what, no SEE", new DunceSee().ofPupil(0, 4), UNKNOWN);
    }
}
