/** Promise 19: hards. */
public final class Promise19Test extends Promises {
    public static void main(String[] args) {
        run(Promise19Test.class);
    }

    @Holds(promise = 19, says = "HARDS, as a set.")
    static void byHours(Due due) {
        DunceSee x = told("c94,555;p45;p65");
        x.reading(0, 3, 10);
        for (int d = 0; d < 3; d++) {
            due.is("one DAY was easy: hards(" + d + ")", x.hards(d), 31);
        }
        x.back(1);
        x.reading(1, 2, 5);
        due.is("the first DAY was hard", x.hards(0), 896);
        due.is("or the second one", x.hards(1), 896);
        due.is("the third was not read", x.hards(2), 0);
        namesNoFaults(due, x, "hards(0)", () -> x.hards(0), 896);
    }

    @Holds(promise = 19, says = "HARDS of a DAY: 0 .. 9, as a set.")
    static void fromZeroToNine(Due due) {
        DunceSee x = told("c04,5;p85;p05");
        due.is("by no READING", x.hards(0), 1023);
        x.reading(0, 1, 5);
        due.is("only 9", x.hards(0), 512);
        x.back(1);
        x.reading(1, 1, 0);
        due.is("only 0", x.hards(0), 1);
        x.back(1);
        x.reading(0, 1, 4);
        due.is("none", x.hards(0), 0);
    }

    @Holds(promise = 19, says = "in place of what it is alone, by which all READINGS are so")
    static void inPlaceOfItsHardAlone(Due due) {
        DunceSee x = told("c04,55;p45;p65");
        x.reading(0, 1, 5);
        x.reading(1, 1, 0);
        due.is("between the WITS", x.hards(0), 96);
        due.is("the other DAY was not read", x.hards(1), 1023);
        x.reading(1, 2, 5);
        due.is("the other DAY was hard", x.hards(1), 896);
        due.is("the first is not all", x.hards(0), 0);
        changesNothing(due, x, () -> due.is("nothing is kept", x.hards(1), 896));
        DunceSee y = told("c91,9;p45;p55");
        y.reading(1, 1, 5);
        due.is("no HARD makes ROOM", y.hards(0), 0);
        y.build(2);
        due.is("with ROOM", y.hards(0), 960);
    }

    @Holds(promise = 19, says = "nobody PRETENDED")
    static void nobodyPretended(Due due) {
        DunceSee x = told("c94,5;p65;p64");
        x.reading(0, 1, 5);
        due.is("hards(0)", x.hards(0), 896);
        plan(x, 0, 1, 1);
        due.is("behind a plan", x.hards(0), 896);
        x.odds(0, 0);
        due.is("behind odds", x.hards(0), 896);
        x.doubt(0);
        due.is("DOUBT is of no use", x.hards(0), 896);
    }

    @Holds(promise = 19, says = "UNKNOWN.")
    static void noSuchDay(Due due) {
        DunceSee x = told(TWO);
        for (int d : not(0, 1)) {
            namesNoFaults(due, x, "hards(" + d + ")", () -> x.hards(d), UNKNOWN);
        }
        due.is("a sixth", told("c42,36512;p45").hards(5), UNKNOWN);
        due.is("the fifth", told("c42,36512;p45").hards(4), 1023);
        due.is("no SEE", new DunceSee().hards(0), UNKNOWN);
    }
}
