import java.lang.reflect.InvocationTargetException;
import java.lang.reflect.Method;
import java.util.function.LongSupplier;

/** What the tests of the promises share: the document's numbers, and how to tell and ask. */
abstract class Promises {
    // Not taken from the class, so that a wrong number there is told.
    static final int UNKNOWN = -1, OUTSIDE = -2, STATE = -3, FULL = -4, NONE = -9;
    static final long LOST = -9223372036854775808L;
    static final int NULL = 1, CAST = 2, INDEX = 3, SIZE = 4;
    static final int LEAST = -2147483648, GREATEST = 2147483647;

    /** HARD 3 6; a PUPIL of WIT 4 and 5 HOURS, a DEACON of WIT 2 and 6 HOURS. */
    static final String TWO = "c42,36;p45;d27";
    /** HARD 3 6 1 5; two more: a CURATE of WIT 6 and 4 HOURS, a PUPIL of WIT 5 and 3 HOURS. */
    static final String FOUR = "c42,3615;p45;d27;u68;p53";

    /** Runs every test of a class that says what it holds. */
    static void run(Class<?> tests) {
        int held = 0;
        int broken = 0;
        int asked = 0;
        for (Method test : tests.getDeclaredMethods()) {
            Holds holds = test.getAnnotation(Holds.class);
            if (holds == null) {
                continue;
            }
            Due due = new Due(tests.getSimpleName() + "." + test.getName());
            try {
                test.invoke(null, due);
            } catch (InvocationTargetException thrown) {
                due.broke(thrown.getCause());
            } catch (IllegalAccessException thrown) {
                due.broke(thrown);
            }
            asked += due.asked();
            if (due.held()) {
                held++;
            } else {
                broken++;
                System.out.println("BROKEN  promise " + holds.promise() + ": \"" + holds.says() + "\"");
            }
        }
        System.out.println(tests.getSimpleName() + ": " + held + " sentences held, " + broken
            + " broken, " + asked + " answers");
        if (broken > 0 || held == 0) {
            System.exit(1);
        }
    }

    /** Numbers that are not from .. to: next to it, and as far off as there are. */
    static int[] not(int from, int to) {
        return new int[] {from - 1, to + 1, LEAST, GREATEST};
    }

    static void row(DunceSee x, int k, int lane, int... values) {
        x.sheet(k, lane, values.length);
        for (int i = 0; i < values.length; i++) {
            x.put(k, i, values[i]);
        }
    }

    static int[] codes(String text) {
        return text.chars().toArray();
    }

    /** Puts a text into a new row of bytes, and answers what see() makes of it. */
    static int see(DunceSee x, int k, String text) {
        row(x, k, 0, codes(text));
        return x.see(k, 0, 0, text.length());
    }

    /** Its text is in SHEET 0. */
    static DunceSee told(String text) {
        DunceSee x = new DunceSee();
        if (see(x, 0, text) < 1) {
            throw new IllegalStateException("the test's own text is wrong: " + text);
        }
        return x;
    }

    /** A plan in a new row of ints of SHEET 1. */
    static int plan(DunceSee x, int what, int... sets) {
        row(x, 1, 2, sets);
        return x.plan(1, 2, 0, sets.length, what);
    }

    /** Of a call that names FAULTS: it comes to one. */
    static void fails(Due due, DunceSee x, String call, int answer, int fault) {
        due.is(call, answer, -10 - fault);
        due.is("fault() behind " + call, x.fault(), fault);
    }

    /** Of a call that names FAULTS: it comes to none, so that the one before is no longer told. */
    static void namesFaults(Due due, DunceSee x, String call, LongSupplier ask, long want) {
        anyFault(x);
        due.is(call, ask.getAsLong(), want);
        due.is("fault() behind " + call, x.fault(), 0);
    }

    /** Of a call that names none: the one before is still told. */
    static void namesNoFaults(Due due, DunceSee x, String call, LongSupplier ask, long want) {
        anyFault(x);
        due.is(call, ask.getAsLong(), want);
        due.is("fault() behind " + call, x.fault(), SIZE);
    }

    private static void anyFault(DunceSee x) {
        x.sheet(0, 0, -1);
    }

    static void changesNothing(Due due, DunceSee x, Runnable calls) {
        String before = Seen.of(x);
        calls.run();
        String behind = Seen.of(x);
        due.holds("all is as it was:" + before + ", and is" + behind, before.equals(behind));
    }
}
