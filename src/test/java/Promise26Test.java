/** Promise 26: tell. */
public final class Promise26Test extends Promises {
    public static void main(String[] args) {
        run(Promise26Test.class);
    }

    @Holds(promise = 26, says = "TELLING of a PUPIL.")
    static void ofEachPupil(Due due) {
        DunceSee x = told(FOUR);
        int[] want = {5, 107, 116, 3};
        for (int p = 0; p < 4; p++) {
            int one = p;
            namesNoFaults(due, x, "tell(" + p + ")", () -> x.tell(one), want[p]);
        }
    }

    @Holds(promise = 26, says = "TELLING of PUPILS by bodies that leave their number in TRACE")
    static void whatIsLeftInTrace(Due due) {
        String[] texts = {"c11,1;p15", "c11,1;d15", "c11,1;u15"};
        int[] want = {1, 2 * 31 + 1, ((3 * 31 + 2) * 31 + 1) * 31 + 1};
        for (int kind = 0; kind < 3; kind++) {
            DunceSee x = told(texts[kind]);
            x.tell(0);
            due.is("TRACE of kind " + kind, x.trace(), want[kind]);
        }
    }

    @Holds(promise = 26, says = "as they begin: PUPIL (1): PATIENCE.")
    static void ofAPupil(Due due) {
        for (int patience = 0; patience <= 9; patience++) {
            DunceSee x = told("c11,1;p1" + patience);
            due.is("tell(0)", x.tell(0), patience);
            due.is("trace()", x.trace(), 1);
        }
    }

    @Holds(promise = 26, says = "DEACON (2): what PUPIL's gives, and 100.")
    static void ofADeacon(Due due) {
        for (int patience = 0; patience <= 9; patience++) {
            DunceSee x = told("c11,1;d1" + patience);
            due.is("tell(0)", x.tell(0), patience + 100);
            due.is("trace()", x.trace(), 63);
        }
    }

    @Holds(promise = 26, says = "CURATE (3): what DEACON's gives, and what PUPIL's gives (DEACON's left out).")
    static void ofACurate(Due due) {
        for (int patience = 0; patience <= 9; patience++) {
            DunceSee x = told("c11,1;u1" + patience);
            due.is("tell(0)", x.tell(0), 2 * patience + 100);
            due.is("trace()", x.trace(), 91327);
        }
    }

    @Holds(promise = 26, says = "UNKNOWN.")
    static void noSuchPupil(Due due) {
        DunceSee x = told(TWO);
        changesNothing(due, x, () -> {
            for (int p : not(0, 1)) {
                namesNoFaults(due, x, "tell(" + p + ")", () -> x.tell(p), UNKNOWN);
            }
        });
        due.is("TRACE", x.trace(), 0);
        due.is("a fifth", told(FOUR).tell(4), UNKNOWN);
        due.is("no SEE", new DunceSee().tell(0), UNKNOWN);
    }
}
