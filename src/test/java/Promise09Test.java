/** Promise 9: would. */
public final class Promise09Test extends Promises {
    public static void main(String[] args) {
        run(Promise09Test.class);
    }

    private static void would(Due due, int doubt, int hard, int wit, boolean pretends, int want) {
        DunceSee x = told("c" + doubt + "1," + hard + ";p" + wit + "1");
        due.is("DOUBT " + doubt + ", HARD " + hard + ", WIT " + wit + ", PRETENDS " + pretends,
            x.would(0, 0, pretends), want);
    }

    @Holds(promise = 9, says = "Whether a PUPIL WOULD stand on a DAY, if one PRETENDS on it, or does not: 1, 0.")
    static void ofEachPupilAndDay(Due due) {
        DunceSee x = told(FOUR);
        int[][] not = {{0, 1, 0, 1}, {1, 1, 0, 1}, {0, 0, 0, 0}, {0, 1, 0, 0}};
        int[][] pretending = {{1, 1, 1, 1}, {1, 1, 1, 1}, {1, 1, 0, 1}, {1, 1, 0, 1}};
        for (int p = 0; p < 4; p++) {
            for (int d = 0; d < 4; d++) {
                String call = "would(" + p + ", " + d + ", ";
                due.is(call + "false)", x.would(p, d, false), not[p][d]);
                due.is(call + "true)", x.would(p, d, true), pretending[p][d]);
            }
        }
        namesNoFaults(due, x, "would(0, 0, true)", () -> x.would(0, 0, true), 1);
    }

    @Holds(promise = 9, says = "One WOULD stand on a DAY, if one's WIT is below its HARD")
    static void witBelowHard(Due due) {
        would(due, 9, 5, 0, false, 1);
        would(due, 9, 5, 4, false, 1);
        would(due, 9, 5, 5, false, 0);
        would(due, 9, 5, 6, false, 0);
        would(due, 9, 0, 0, false, 0);
        would(due, 9, 9, 8, false, 1);
        would(due, 9, 9, 9, false, 0);
        would(due, 0, 5, 4, true, 1);
        would(due, 0, 9, 0, true, 1);
    }

    @Holds(promise = 9, says = "or if one PRETENDS on it, and WIT is above (or at) HARD by less than DOUBT.")
    static void aboveByLessThanDoubt(Due due) {
        would(due, 3, 5, 5, true, 1);
        would(due, 3, 5, 7, true, 1);
        would(due, 3, 5, 8, true, 0);
        would(due, 3, 5, 7, false, 0);
        would(due, 0, 5, 5, true, 0);
        would(due, 1, 5, 5, true, 1);
        would(due, 1, 5, 6, true, 0);
        would(due, 9, 0, 8, true, 1);
        would(due, 9, 0, 9, true, 0);
        would(due, 9, 1, 9, true, 1);
        for (int wit = 0; wit <= 9; wit++) {
            for (int doubt = 0; doubt <= 9; doubt++) {
                would(due, doubt, 4, wit, true, wit < 4 || wit < 4 + doubt ? 1 : 0);
            }
        }
    }

    @Holds(promise = 9, says = "UNKNOWN: PUPIL, DAY.")
    static void noSuchPupilOrDay(Due due) {
        DunceSee x = told("c42,365;p45;d27");
        for (int p : not(0, 1)) {
            namesNoFaults(due, x, "would(" + p + ", 0, true)", () -> x.would(p, 0, true), UNKNOWN);
        }
        for (int d : not(0, 2)) {
            namesNoFaults(due, x, "would(0, " + d + ", true)", () -> x.would(0, d, true), UNKNOWN);
        }
        due.is("both", x.would(2, 3, false), UNKNOWN);
        due.is("the last ones", x.would(1, 2, false), 1);
        due.is("no SEE", new DunceSee().would(0, 0, false), UNKNOWN);
    }

    @Holds(promise = 9, says = "UNKNOWN (there is no such PUPIL, DAY, SHEET")
    static void aDayIsNoPupil(Due due) {
        DunceSee days = told("c42,36512;p45");
        due.is("PUPIL 1 of 1, DAY 4 of 5", days.would(1, 4, true), UNKNOWN);
        due.is("PUPIL 0 of 1, DAY 4 of 5", days.would(0, 4, true), 1);
        DunceSee pupils = told("c42,3;p45;p45;p45;p25");
        due.is("PUPIL 3 of 4, DAY 1 of 1", pupils.would(3, 1, true), UNKNOWN);
        due.is("PUPIL 3 of 4, DAY 0 of 1", pupils.would(3, 0, false), 1);
    }
}
