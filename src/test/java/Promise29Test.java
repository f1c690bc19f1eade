/** Promise 29: trace. */
public final class Promise29Test extends Promises {
    public static void main(String[] args) {
        run(Promise29Test.class);
    }

    @Holds(promise = 29, says = "TRACE.")
    static void trace(Due due) {
        DunceSee x = told(FOUR);
        x.tell(0);
        x.cap(0);
        due.is("1 4", x.trace(), 35);
        x.tell(1);
        x.cap(1);
        due.is("1 4 2 1 4", x.trace(), 1044642);
        namesNoFaults(due, x, "and still", x::trace, 1044642);
    }

    @Holds(promise = 29, says = "0 at first, becomes 31 times it and the number")
    static void atFirst(Due due) {
        DunceSee x = told(FOUR);
        due.is("trace()", x.trace(), 0);
        x.cap(0);
        due.is("4", x.trace(), 4);
        x.cap(2);
        due.is("4 5", x.trace(), 129);
        x.tell(3);
        due.is("4 5 1", x.trace(), 4000);
    }

    @Holds(promise = 29, says = "(an int that wraps")
    static void wraps(Due due) {
        DunceSee x = told(FOUR);
        for (int i = 0; i < 6; i++) {
            x.cap(0);
        }
        due.is("six times 4", x.trace(), 118333824);
        x.cap(0);
        due.is("seven times 4, wrapped", x.trace(), (int) (118333824L * 31 + 4));
        due.is("seven times 4, wrapped", x.trace(), -626618748);
        int want = x.trace();
        for (int i = 0; i < 200; i++) {
            x.cap(2);
            want = want * 31 + 5;
            due.is("and on", x.trace(), want);
        }
    }

    @Holds(promise = 29, says = "by bodies that leave their number in TRACE")
    static void otherCallsLeaveNone(Due due) {
        DunceSee x = told(FOUR);
        x.tell(0);
        x.tell(4);
        x.cap(-1);
        x.as(0, 1);
        x.as(2, 1);
        x.ofPupil(2, 3);
        x.bishop();
        x.best(2);
        x.odds(2, 0);
        x.wits(2);
        x.kinds(0);
        x.teach(2, 1);
        due.is("trace()", x.trace(), 1);
    }

    @Holds(promise = 29, says = "An object is used for at most 512 calls after it has been made")
    static void fiveHundredAndTwelveCalls(Due due) {
        DunceSee x = told(TWO);
        int calls = 16;
        int want = 0;
        for (int r = 0; r < 8; r++) {
            x.reading(0, 2, 5);
            calls++;
        }
        while (calls < 500) {
            x.cap(1);
            want = want * 31 + 4;
            calls++;
        }
        due.is("call 501", x.trace(), want);
        due.is("call 502", x.many(4), 8);
        due.is("call 503", x.wits(0), 56);
        due.is("call 504", x.bishop(), 1);
        due.is("call 505", x.sheet(3, 2, 60), 1);
        due.is("call 506", x.put(3, 59, LEAST), 1);
        due.is("call 507", x.cell(3, 59, 2), LEAST);
        due.is("call 508", x.see(0, 0, 0, 14), 2);
        due.is("call 509", x.many(4), 0);
        due.is("call 510", x.odds(1, 1), 1);
        due.is("call 511", x.as(0, 1), -12);
        due.is("call 512", x.fault(), CAST);
    }
}
