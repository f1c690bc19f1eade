/** Promise 16: back. */
public final class Promise16Test extends Promises {
    public static void main(String[] args) {
        run(Promise16Test.class);
    }

    @Holds(promise = 16, says = "The last k READINGS (0 .. as many as there are) are taken back: how many are left.")
    static void theLastOnes(Due due) {
        DunceSee x = told(TWO);
        x.reading(0, 2, 5);
        x.reading(0, 1, 9);
        x.reading(0, 1, 8);
        due.is("wits of what cannot be", x.wits(0), 0);
        due.is("back(0)", x.back(0), 3);
        due.is("back(2)", x.back(2), 1);
        due.is("wits by the first", x.wits(0), 56);
        due.is("back(1)", x.back(1), 0);
        due.is("wits by none", x.wits(0), 1023);
        due.is("back(0)", x.back(0), 0);
    }

    @Holds(promise = 16, says = "(0 .. as many as there are)")
    static void noneAndAllOfEight(Due due) {
        DunceSee x = told(TWO);
        for (int r = 0; r < 8; r++) {
            x.reading(0, 0, 0);
        }
        namesNoFaults(due, x, "back(0)", () -> x.back(0), 8);
        due.is("back(9)", x.back(9), OUTSIDE);
        namesNoFaults(due, x, "back(8)", () -> x.back(8), 0);
        due.is("READINGS", x.many(4), 0);
    }

    @Holds(promise = 16, says = "OUTSIDE.")
    static void moreThanThereAre(Due due) {
        DunceSee x = told(TWO);
        due.is("back(1) of none", x.back(1), OUTSIDE);
        x.reading(0, 0, 0);
        x.reading(0, 0, 0);
        for (int k : not(0, 2)) {
            namesNoFaults(due, x, "back(" + k + ")", () -> x.back(k), OUTSIDE);
        }
        DunceSee none = new DunceSee();
        due.is("back(0), no SEE", none.back(0), 0);
        due.is("back(1), no SEE", none.back(1), OUTSIDE);
        due.is("back(-1), no SEE", none.back(-1), OUTSIDE);
        see(x, 1, TWO);
        due.is("back(1) behind a new SEE", x.back(1), OUTSIDE);
    }

    @Holds(promise = 16, says = "they change nothing")
    static void refusalsChangeNothing(Due due) {
        DunceSee x = told(TWO);
        x.reading(0, 2, 5);
        x.reading(1, 1, 6);
        changesNothing(due, x, () -> {
            due.is("back(3)", x.back(3), OUTSIDE);
            due.is("back(-1)", x.back(-1), OUTSIDE);
        });
    }
}
