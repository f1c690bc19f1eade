/** Promise 14: choose. */
public final class Promise14Test extends Promises {
    public static void main(String[] args) {
        run(Promise14Test.class);
    }

    @Holds(promise = 14, says = "CHOOSE; NONE.")
    static void ofEachPupilAndDay(Due due) {
        DunceSee x = told("c04,55;p45;p34");
        due.is("choose(0, 0)", x.choose(0, 0), 0);
        due.is("choose(1, 0)", x.choose(1, 0), 4);
        due.is("choose(1, 1)", x.choose(1, 1), 4);
        due.is("the other has more anyhow", told("c04,55;p49;p91").choose(1, 1), NONE);
        namesNoFaults(due, x, "choose(1, 0)", () -> x.choose(1, 0), 4);
    }

    @Holds(promise = 14, says = "CHOOSE for a PUPIL and a DAY: the least HARD (0 .. 9) of that DAY by which one is BISHOP")
    static void theLeastHard(Due due) {
        for (int wit = 0; wit <= 8; wit++) {
            due.is("WIT " + wit, told("c91,0;p" + wit + "1").choose(0, 0), wit + 1);
            due.is("WIT " + wit, told("c91,9;p" + wit + "1").choose(0, 0), wit + 1);
        }
        due.is("0, if one is anyhow", told("c01,95;p01").choose(0, 0), 0);
        due.is("0, if the DAY was in one's way", told("c04,59;p34;p89").choose(0, 1), 0);
        due.is("9", told("c04,5;p89").choose(0, 0), 9);
        due.is("7 is too much", told("c04,9;p34;p69").choose(0, 0), 4);
        due.is("6 is too little", told("c04,0;p34;p69").choose(1, 0), 7);
        due.is("not on another DAY", told("c04,05;p72;p45").choose(0, 0), NONE);
        due.is("on the last DAY", told("c04,00000;p72;p95").choose(0, 4), 8);
    }

    @Holds(promise = 14, says = "if nobody PRETENDS; NONE.")
    static void nobodyPretends(Due due) {
        due.is("above all HARDS", told("c94,0;p95").choose(0, 0), NONE);
        due.is("0 HOURS a DAY", told("c04,5;p40").choose(0, 0), NONE);
        due.is("no ROOM", told("c01,5;p19;p09").choose(0, 0), NONE);
        due.is("others do not either", told("c94,0;p51;p69").choose(0, 0), 6);
        DunceSee x = told("c94,5;p65;p64");
        plan(x, 0, 1, 1);
        due.is("behind a plan", x.choose(0, 0), 7);
        x.odds(0, 0);
        due.is("behind odds", x.choose(0, 0), 7);
    }

    @Holds(promise = 14, says = "UNKNOWN: PUPIL, DAY.")
    static void noSuchPupilOrDay(Due due) {
        DunceSee x = told("c42,365;p45;d27");
        for (int p : not(0, 1)) {
            namesNoFaults(due, x, "choose(" + p + ", 0)", () -> x.choose(p, 0), UNKNOWN);
        }
        for (int d : not(0, 2)) {
            namesNoFaults(due, x, "choose(0, " + d + ")", () -> x.choose(0, d), UNKNOWN);
        }
        due.is("PUPIL 2 of 2, DAY 2 of 3", x.choose(2, 2), UNKNOWN);
        due.is("PUPIL 1 of 2, DAY 2 of 3", x.choose(1, 2), 0);
        due.is("PUPIL 3 of 4, DAY 1 of 1", told("c42,3;p45;p45;p45;p25").choose(3, 1), UNKNOWN);
        due.is("no SEE", new DunceSee().choose(0, 0), UNKNOWN);
    }

    @Holds(promise = 14, says = "CHOOSE")
    static void nothingIsKept(Due due) {
        DunceSee x = told(FOUR);
        x.reading(0, 2, 5);
        changesNothing(due, x, () -> {
            for (int p = 0; p < 4; p++) {
                for (int d = 0; d < 4; d++) {
                    due.holds("choose(" + p + ", " + d + ")", x.choose(p, d) >= NONE);
                }
            }
        });
        DunceSee y = told("c04,55;p45;p34");
        due.is("choose(1, 0)", y.choose(1, 0), 4);
        y.teach(0, 9);
        due.is("behind teach", y.choose(1, 0), 0);
        y.ask(1, 0);
        due.is("behind ask", y.choose(1, 0), 4);
    }
}
