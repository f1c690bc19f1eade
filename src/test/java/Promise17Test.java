/** Promise 17: wits. */
public final class Promise17Test extends Promises {
    public static void main(String[] args) {
        run(Promise17Test.class);
    }

    private static void wits(Due due, String why, DunceSee x, int p, int want) {
        due.is(why + ": wits(" + p + ")", x.wits(p), want);
    }

    @Holds(promise = 17, says = "WITS, as a set.")
    static void byOneReading(Due due) {
        DunceSee x = told("c94,357;p45;d27");
        x.reading(0, 3, 10);
        wits(due, "below 5, not below 3", x, 0, 24);
        x.back(1);
        x.reading(0, 3, 0);
        wits(due, "below none", x, 0, 896);
        x.back(1);
        x.reading(0, 1, 5);
        wits(due, "below 3", x, 0, 7);
        namesNoFaults(due, x, "wits(0)", () -> x.wits(0), 7);
    }

    @Holds(promise = 17, says = "WITS of a PUPIL: 0 .. 9, as a set")
    static void fromZeroToNine(Due due) {
        DunceSee x = told("c04,9;p45");
        wits(due, "by no READING", x, 0, 1023);
        x.reading(0, 1, 0);
        wits(due, "only 9", x, 0, 512);
        x.back(1);
        x.ask(0, 1);
        x.reading(0, 1, 5);
        wits(due, "only 0", x, 0, 1);
        x.ask(0, 0);
        wits(due, "none", x, 0, 0);
    }

    @Holds(promise = 17, says = "All that follows: in place of what it is alone")
    static void inPlaceOfItsWitAlone(Due due) {
        DunceSee x = told("c91,9;p45;p55");
        x.reading(1, 1, 5);
        wits(due, "1 goes first", x, 1, 15);
        wits(due, "0 goes behind 1", x, 0, 960);
        DunceSee y = told("c94,9;p15;p25");
        y.reading(0, 1, 0);
        wits(due, "of 0", y, 0, 512);
        wits(due, "of 1 none helps", y, 1, 0);
        changesNothing(due, y, () -> wits(due, "nothing is kept", y, 0, 512));
    }

    @Holds(promise = 17, says = "by which all READINGS are so")
    static void allReadings(Due due) {
        DunceSee x = told("c94,357;p45;d27");
        x.reading(0, 1, 0);
        wits(due, "not below 3", x, 0, 1016);
        x.reading(0, 3, 5);
        wits(due, "and below 7, not below 5", x, 0, 96);
        x.reading(0, 2, 5);
        wits(due, "and below 5", x, 0, 0);
        DunceSee y = told("c94,9;p45;p45");
        for (int r = 0; r < 7; r++) {
            y.reading(0, 1, 5);
        }
        wits(due, "seven READINGS", y, 0, 511);
        y.reading(0, 1, 0);
        wits(due, "an eighth", y, 0, 0);
        y.back(8);
        y.reading(0, 0, 1);
        wits(due, "HOURS behind no DAYS", y, 0, 0);
        wits(due, "HOURS behind no DAYS", y, 1, 0);
    }

    @Holds(promise = 17, says = "if there is not ROOM for all of them, those of the least WIT do")
    static void byRoom(Due due) {
        DunceSee x = told("c91,9;p45;p35");
        x.reading(0, 1, 5);
        wits(due, "the lesser number goes first of equal ones", x, 0, 15);
        wits(due, "the greater number does not", x, 1, 1008);
        x.back(1);
        x.reading(1, 1, 5);
        wits(due, "the greater number does not", x, 1, 15);
        wits(due, "of the other", x, 0, 1008);
        x.build(2);
        wits(due, "ROOM for both", x, 0, 1023);
        wits(due, "ROOM for both", x, 1, 511);
    }

    @Holds(promise = 17, says = "READINGS, 8 at most, numbered by how many there are: nobody PRETENDED")
    static void nobodyPretended(Due due) {
        DunceSee x = told("c94,5;p65;p64");
        x.reading(0, 1, 5);
        wits(due, "below 5", x, 0, 31);
        plan(x, 0, 1, 1);
        wits(due, "behind a plan", x, 0, 31);
        x.odds(0, 0);
        wits(due, "behind odds", x, 0, 31);
        x.best(0);
        wits(due, "behind best", x, 0, 31);
    }

    @Holds(promise = 17, says = "WITS of a PUPIL")
    static void ofTheSeeAsItIs(Due due) {
        DunceSee x = told(TWO);
        x.reading(0, 2, 5);
        wits(due, "as it was", x, 0, 56);
        x.ask(1, 9);
        wits(due, "behind ask", x, 0, 504);
        x.teach(0, 9);
        wits(due, "behind teach of that one", x, 0, 504);
        x.build(1);
        x.teach(1, 0);
        wits(due, "behind build and teach of another", x, 0, 0);
        due.is("READINGS stay", x.many(4), 1);
    }

    @Holds(promise = 17, says = "UNKNOWN.")
    static void noSuchPupil(Due due) {
        DunceSee x = told(TWO);
        for (int p : not(0, 1)) {
            namesNoFaults(due, x, "wits(" + p + ")", () -> x.wits(p), UNKNOWN);
        }
        due.is("a fifth", told(FOUR).wits(4), UNKNOWN);
        due.is("no SEE", new DunceSee().wits(0), UNKNOWN);
    }
}
