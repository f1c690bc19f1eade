/** Promise 27: cap. */
public final class Promise27Test extends Promises {
    public static void main(String[] args) {
        run(Promise27Test.class);
    }

    @Holds(promise = 27, says = "How they are CAPPED.")
    static void ofEachPupil(Due due) {
        DunceSee x = told(FOUR);
        int[] want = {0, 1, 70, 3};
        for (int p = 0; p < 4; p++) {
            int one = p;
            namesNoFaults(due, x, "cap(" + p + ")", () -> x.cap(one), want[p]);
        }
        due.is("TRACE 4 4 5 4", x.trace(), ((4 * 31 + 4) * 31 + 5) * 31 + 4);
    }

    @Holds(promise = 27, says = "CAPPED by a lent body (4): their number")
    static void byALentBody(Due due) {
        DunceSee x = told("c11,1;p19;d19;p19;d19");
        for (int p = 0; p < 4; p++) {
            due.is("cap(" + p + ")", x.cap(p), p);
        }
        DunceSee one = told("c11,1;d19");
        one.cap(0);
        due.is("TRACE", one.trace(), 4);
    }

    @Holds(promise = 27, says = "CURATES have their own (5): 70.")
    static void curatesHaveTheirOwn(Due due) {
        DunceSee x = told("c11,1;u19;u09;u99;u90");
        for (int p = 0; p < 4; p++) {
            due.is("cap(" + p + ")", x.cap(p), 70);
        }
        DunceSee one = told("c11,1;u19");
        one.cap(0);
        due.is("TRACE", one.trace(), 5);
    }

    @Holds(promise = 27, says = "UNKNOWN.")
    static void noSuchPupil(Due due) {
        DunceSee x = told(TWO);
        changesNothing(due, x, () -> {
            for (int p : not(0, 1)) {
                namesNoFaults(due, x, "cap(" + p + ")", () -> x.cap(p), UNKNOWN);
            }
        });
        due.is("TRACE", x.trace(), 0);
        due.is("a fifth", told(FOUR).cap(4), UNKNOWN);
        due.is("no SEE", new DunceSee().cap(0), UNKNOWN);
    }
}
