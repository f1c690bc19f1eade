/** Promise 18: kinds. */
public final class Promise18Test extends Promises {
    public static void main(String[] args) {
        run(Promise18Test.class);
    }

    @Holds(promise = 18, says = "KINDS, as a set.")
    static void byHours(Due due) {
        int[] hours = {4, 3, 2};
        for (int was = 0; was < 3; was++) {
            for (int is = 0; is < 3; is++) {
                DunceSee x = told("c94,99;" + "pdu".charAt(is) + "04");
                x.reading(0, 2, 2 * hours[was]);
                due.is("read as of kind " + was, x.kinds(0), 1 << was);
                due.is("the kind stays", x.ofPupil(0, 0), is);
            }
        }
        DunceSee x = told("c94,99;p04");
        namesNoFaults(due, x, "kinds(0)", () -> x.kinds(0), 7);
    }

    @Holds(promise = 18, says = "KINDS of a PUPIL: 0 .. 2, as a set")
    static void fromZeroToTwo(Due due) {
        DunceSee x = told("c94,9;p02;d01;u00;p09");
        due.is("by no READING", x.kinds(0), 7);
        x.reading(0, 1, 1);
        due.is("PATIENCE 2: DEACON, CURATE", x.kinds(0), 6);
        x.back(1);
        x.reading(1, 1, 0);
        due.is("PATIENCE 1: DEACON, CURATE", x.kinds(1), 6);
        x.back(1);
        x.reading(2, 1, 0);
        due.is("PATIENCE 0: all", x.kinds(2), 7);
        x.back(1);
        x.reading(3, 1, 7);
        due.is("PATIENCE 9: 7 is of none", x.kinds(3), 0);
    }

    @Holds(promise = 18, says = "in place of what it is alone, by which all READINGS are so")
    static void inPlaceOfItsKindAlone(Due due) {
        DunceSee x = told("c94,99;p04;p06");
        x.reading(0, 1, 3);
        due.is("of 0", x.kinds(0), 2);
        due.is("of 1 none helps", x.kinds(1), 0);
        x.reading(1, 1, 6);
        due.is("the other as it is", x.kinds(0), 2);
        x.reading(0, 2, 8);
        due.is("both READINGS of 0", x.kinds(0), 0);
        DunceSee y = told("c91,9;p45;p55");
        y.reading(1, 1, 5);
        due.is("no kind makes ROOM", y.kinds(0), 0);
        y.back(1);
        y.reading(1, 1, 0);
        due.is("any kind leaves none", y.kinds(0), 7);
        changesNothing(due, y, () -> due.is("nothing is kept", y.kinds(1), 7));
    }

    @Holds(promise = 18, says = "nobody PRETENDED")
    static void nobodyPretended(Due due) {
        DunceSee x = told("c94,5;p65;p64");
        x.reading(0, 1, 0);
        due.is("kinds(0)", x.kinds(0), 7);
        plan(x, 0, 1, 1);
        due.is("behind a plan", x.kinds(0), 7);
        x.odds(0, 0);
        due.is("behind odds", x.kinds(0), 7);
    }

    @Holds(promise = 18, says = "UNKNOWN.")
    static void noSuchPupil(Due due) {
        DunceSee x = told(TWO);
        for (int p : not(0, 1)) {
            namesNoFaults(due, x, "kinds(" + p + ")", () -> x.kinds(p), UNKNOWN);
        }
        due.is("a fifth", told(FOUR).kinds(4), UNKNOWN);
        due.is("no SEE", new DunceSee().kinds(0), UNKNOWN);
    }
}
