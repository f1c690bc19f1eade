/** Promise 20: odds. */
public final class Promise20Test extends Promises {
    public static void main(String[] args) {
        run(Promise20Test.class);
    }

    private static void share(Due due, DunceSee x, int p, int upper, int lower) {
        due.is("upper of " + p, x.odds(p, 0), upper);
        due.is("lower of " + p, x.odds(p, 1), lower);
    }

    @Holds(promise = 20, says = "ODDS (which 0 the upper, 1 the lower number).")
    static void upperAndLower(Due due) {
        DunceSee x = told("c94,50;p66;p45;p09");
        share(due, x, 0, 1, 4);
        share(due, x, 1, 1, 8);
        share(due, x, 2, 5, 8);
        namesNoFaults(due, x, "odds(2, 0)", () -> x.odds(2, 0), 5);
        namesNoFaults(due, x, "odds(2, 1)", () -> x.odds(2, 1), 8);
    }

    @Holds(promise = 20, says = "ODDS of a PUPIL: if each one PRETENDS on all DAYS, or on none, all such sets of PUPILS alike: the share by which that one is BISHOP.")
    static void allSetsOfPupils(Due due) {
        DunceSee equal = told("c94,55;p65;p65;p65;p65");
        share(due, equal, 0, 1, 2);
        share(due, equal, 1, 1, 4);
        share(due, equal, 2, 1, 8);
        share(due, equal, 3, 1, 16);
        DunceSee room = told("c91,5;p69;p61;p51");
        share(due, room, 0, 1, 4);
        share(due, room, 1, 1, 8);
        share(due, room, 2, 1, 2);
        DunceSee days = told("c94,551;p65;p46");
        share(due, days, 0, 1, 4);
        share(due, days, 1, 3, 4);
    }

    @Holds(promise = 20, says = "Shares are told as upper and lower number (above 0) in least terms.")
    static void inLeastTerms(Due due) {
        share(due, told("c04,5;p65"), 0, 0, 1);
        share(due, told("c94,0;p95;p95;p95;p95"), 3, 0, 1);
        share(due, told("c94,5;p45"), 0, 1, 1);
        share(due, told("c94,5;p45;p95;p95;p95"), 0, 1, 1);
        share(due, told("c94,5;p65"), 0, 1, 2);
        share(due, told("c94,5;p65;p90;p90;p90"), 0, 1, 2);
    }

    @Holds(promise = 20, says = "all such sets of PUPILS alike")
    static void readingsDoNotMatter(Due due) {
        DunceSee x = told("c91,5;p69;p61;p51");
        x.reading(0, 0, 1);
        share(due, x, 2, 1, 2);
        changesNothing(due, x, () -> share(due, x, 0, 1, 4));
        x.doubt(0);
        share(due, x, 2, 0, 1);
        x.teach(2, 0);
        share(due, x, 2, 1, 1);
        x.ask(0, 0);
        share(due, x, 2, 0, 1);
    }

    @Holds(promise = 20, says = "LOST: UNKNOWN")
    static void noSuchPupil(Due due) {
        DunceSee x = told(TWO);
        for (int p : not(0, 1)) {
            namesNoFaults(due, x, "odds(" + p + ", 0)", () -> x.odds(p, 0), LOST);
            namesNoFaults(due, x, "odds(" + p + ", 1)", () -> x.odds(p, 1), LOST);
        }
        due.is("a fifth", told(FOUR).odds(4, 0), LOST);
        due.is("no SEE", new DunceSee().odds(0, 1), LOST);
    }

    @Holds(promise = 20, says = "OUTSIDE.")
    static void neitherUpperNorLower(Due due) {
        DunceSee x = told(TWO);
        for (int which : not(0, 1)) {
            namesNoFaults(due, x, "odds(0, " + which + ")", () -> x.odds(0, which), LOST);
        }
        due.is("both", x.odds(2, 2), LOST);
    }
}
