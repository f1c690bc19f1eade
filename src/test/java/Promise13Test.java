/** Promise 13: best. */
public final class Promise13Test extends Promises {
    public static void main(String[] args) {
        run(Promise13Test.class);
    }

    private static void best(Due due, String why, String text, int p, int want) {
        due.is(why + ": best(" + p + ") of " + text, told(text).best(p), want);
    }

    @Holds(promise = 13, says = "BEST, as a set; NONE.")
    static void ofEachPupil(Due due) {
        DunceSee x = told(FOUR);
        int[] want = {5, 0, NONE, NONE};
        for (int p = 0; p < 4; p++) {
            due.is("best(" + p + ")", x.best(p), want[p]);
        }
        namesNoFaults(due, x, "best(0)", () -> x.best(0), 5);
    }

    @Holds(promise = 13, says = "BEST of a PUPIL: the set of the fewest DAYS to PRETEND on by which one is BISHOP")
    static void theFewestDays(Due due) {
        best(due, "one is anyhow", "c04,9;p05", 0, 0);
        best(due, "one DAY", "c94,555;p65", 0, 1);
        best(due, "only the last DAY helps", "c14,00005;p55", 0, 16);
        best(due, "all DAYS are needed", "c94,55555;p65;p45", 0, 31);
        best(due, "four of five", "c94,55551;p65;p45", 0, 15);
        best(due, "of DAYS that are of no use none", "c14,6005;p53;p42", 0, 8);
    }

    @Holds(promise = 13, says = "if all others PRETEND on none")
    static void othersDoNotPretend(Due due) {
        best(due, "the other would have more", "c94,5;p61;p69", 0, 1);
        best(due, "the other would take the ROOM", "c91,5;p61;p59", 0, 1);
        DunceSee x = told("c94,5;p61;p69");
        plan(x, 0, 1, 1);
        due.is("behind a plan", x.best(0), 1);
        x.odds(0, 0);
        due.is("behind odds", x.best(0), 1);
    }

    @Holds(promise = 13, says = "of several the least; NONE. CHOOSE")
    static void ofSeveralTheLeast(Due due) {
        best(due, "any of three DAYS", "c94,555;p65", 0, 1);
        best(due, "two of three DAYS", "c94,5550;p65;p43", 0, 3);
        best(due, "one of DAYS 1 and 2", "c14,0660;p65", 0, 2);
        best(due, "DAYS 0 and 2 of 0, 2 and 3", "c14,5655;p53;p42", 0, 5);
    }

    @Holds(promise = 13, says = "by which one is BISHOP, if all others PRETEND on none: of several the least; NONE.")
    static void byNoSet(Due due) {
        best(due, "doubted", "c04,555;p65", 0, NONE);
        best(due, "above by DOUBT", "c14,555;p65", 0, NONE);
        best(due, "0 HOURS a DAY", "c94,555;p60", 0, NONE);
        best(due, "no ROOM", "c91,555;p65;p41", 0, NONE);
        best(due, "equal HOURS do for the lesser", "c94,55;p65;p45", 0, 3);
        best(due, "equal HOURS do not for the greater", "c94,55;p45;p65", 1, NONE);
    }

    @Holds(promise = 13, says = "UNKNOWN.")
    static void noSuchPupil(Due due) {
        DunceSee x = told(TWO);
        for (int p : not(0, 1)) {
            namesNoFaults(due, x, "best(" + p + ")", () -> x.best(p), UNKNOWN);
        }
        due.is("a fifth", told(FOUR).best(4), UNKNOWN);
        due.is("no SEE", new DunceSee().best(0), UNKNOWN);
    }

    @Holds(promise = 13, says = "BEST, as a set")
    static void nothingIsKept(Due due) {
        DunceSee x = told("c94,5;p65;p64");
        changesNothing(due, x, () -> due.is("best(1)", x.best(1), 1));
        x.ask(0, 7);
        due.is("behind ask", x.best(0), 0);
        x.teach(1, 9);
        x.teach(0, 8);
        due.is("behind teach", x.best(1), 1);
        x.doubt(2);
        due.is("behind doubt", x.best(1), NONE);
        see(x, 0, "c94,5;p45");
        due.is("behind a text", x.best(0), 0);
    }
}
