/** Promise 11: bishop. */
public final class Promise11Test extends Promises {
    public static void main(String[] args) {
        run(Promise11Test.class);
    }

    @Holds(promise = 11, says = "BISHOP, if nobody PRETENDS; NONE.")
    static void ifNobodyPretends(Due due) {
        due.is("of four", told(FOUR).bishop(), 1);
        due.is("nobody stands", told("c94,0;p09;p09").bishop(), NONE);
        DunceSee x = told("c94,5;p69;p41");
        due.is("who would if pretending is not", x.bishop(), 1);
        plan(x, 0, 1, 1);
        due.is("behind a plan", x.bishop(), 1);
        x.teach(1, 9);
        due.is("behind teach", x.bishop(), NONE);
        x.ask(0, 7);
        due.is("behind ask", x.bishop(), 0);
    }

    @Holds(promise = 11, says = "BISHOP: who has the most HOURS of all DAYS together")
    static void theMostHoursTogether(Due due) {
        due.is("more HOURS a day", told("c04,9;p02;p03").bishop(), 1);
        due.is("more DAYS", told("c04,9511;p42;p02;p25").bishop(), 2);
        due.is("the last DAY counts", told("c04,99995;p71;p41").bishop(), 1);
        due.is("the first DAY counts", told("c04,59999;p71;p41").bishop(), 1);
        due.is("who has no ROOM has no HOURS", told("c01,9;p59;p41").bishop(), 1);
        due.is("by kind", told("c04,9;u09;d06;p04").bishop(), 1);
    }

    @Holds(promise = 11, says = "above 0")
    static void noHoursMakeNoBishop(Due due) {
        due.is("all stand for 0 HOURS", told("c94,99;p00;d01;u01;d00").bishop(), NONE);
        due.is("one of them for 1", told("c94,99;p00;d01;u02;d00").bishop(), 2);
    }

    @Holds(promise = 11, says = "of several the least; NONE.")
    static void ofSeveralTheLeast(Due due) {
        due.is("three of 3 HOURS", told("c04,9;p02;p03;d04;u06").bishop(), 1);
        due.is("all of 3 HOURS", told("c04,9;p03;p03;d04;u06").bishop(), 0);
        due.is("the last two", told("c04,9;p02;p02;d04;u06").bishop(), 2);
        due.is("equal by other DAYS", told("c04,954;p43;p32").bishop(), 0);
        due.is("equal by other DAYS", told("c04,954;p32;p43").bishop(), 0);
    }

    @Holds(promise = 11, says = "NONE is -9.")
    static void noneIsNine(Due due) {
        due.is("no BISHOP", told("c11,0;p01").bishop(), -9);
    }

    @Holds(promise = 11, says = "STATE: there is no SEE.")
    static void noSee(Due due) {
        DunceSee x = new DunceSee();
        namesNoFaults(due, x, "bishop()", x::bishop, STATE);
        see(x, 0, "c42,36;p4");
        due.is("behind a text that is not taken", x.bishop(), STATE);
        see(x, 0, TWO);
        namesNoFaults(due, x, "bishop()", x::bishop, 1);
    }
}
