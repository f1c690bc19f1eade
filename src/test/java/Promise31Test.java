import java.util.function.LongSupplier;

/** Promise 31: many. */
public final class Promise31Test extends Promises {
    public static void main(String[] args) {
        run(Promise31Test.class);
    }

    @Holds(promise = 31, says = "How many: 0 PUPILS, 1 DAYS, 2 DOUBT, 3 ROOM, 4 READINGS")
    static void howMany(Due due) {
        DunceSee x = told("c43,36512;p45;d27");
        x.reading(0, 0, 0);
        int[] want = {2, 5, 4, 3, 1};
        for (int what = 0; what <= 4; what++) {
            namesNoFaults(due, x, "many(" + what + ")", manyOf(x, what), want[what]);
        }
        x.doubt(0);
        x.build(1);
        x.back(1);
        due.is("DOUBT", x.many(2), 0);
        due.is("ROOM", x.many(3), 1);
        due.is("READINGS", x.many(4), 0);
    }

    private static LongSupplier manyOf(DunceSee x, int what) {
        return () -> x.many(what);
    }

    @Holds(promise = 31, says = "(0 all without a SEE)")
    static void withoutASee(Due due) {
        DunceSee x = new DunceSee();
        for (int what = 0; what <= 4; what++) {
            due.is("many(" + what + ")", x.many(what), 0);
        }
        due.is("a text that just ends too soon", see(x, 0, "c94,99999;p99;d99;u99;p9"), -124);
        for (int what = 0; what <= 4; what++) {
            due.is("many(" + what + ")", x.many(what), 0);
        }
    }

    @Holds(promise = 31, says = "OUTSIDE.")
    static void nothingOfThatNumber(Due due) {
        DunceSee x = told(TWO);
        for (int what : not(0, 4)) {
            namesNoFaults(due, x, "many(" + what + ")", () -> x.many(what), OUTSIDE);
            due.is("many(" + what + "), no SEE", new DunceSee().many(what), OUTSIDE);
        }
    }
}
