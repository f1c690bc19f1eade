/** Promise 4: hard. */
public final class Promise04Test extends Promises {
    public static void main(String[] args) {
        run(Promise04Test.class);
    }

    @Holds(promise = 4, says = "HARD of a DAY.")
    static void ofEachDay(Due due) {
        DunceSee x = told("c42,90715;p45");
        int[] want = {9, 0, 7, 1, 5};
        for (int d = 0; d < 5; d++) {
            due.is("hard(" + d + ")", x.hard(d), want[d]);
        }
    }

    @Holds(promise = 4, says = "UNKNOWN.")
    static void noSuchDay(Due due) {
        DunceSee x = told(TWO);
        for (int d : not(0, 1)) {
            namesNoFaults(due, x, "hard(" + d + ")", () -> x.hard(d), UNKNOWN);
        }
        due.is("a sixth", told("c42,90715;p45").hard(5), UNKNOWN);
        due.is("no SEE", new DunceSee().hard(0), UNKNOWN);
    }
}
