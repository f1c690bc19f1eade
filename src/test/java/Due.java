/** Compares answers with those that are due, and ends a test with exit code 1 if one was not. */
final class Due {
    private final String test;
    private int asked;
    private int wrong;

    Due(String test) {
        this.test = test;
    }

    void is(String call, long got, long want) {
        asked++;
        if (got != want) {
            wrong++;
            System.out.println(test + ": " + call + " answered " + got + ", due is " + want);
        }
    }

    void holds(String what, boolean so) {
        is(what, so ? 1 : 0, 1);
    }

    void end() {
        System.out.println(test + ": " + asked + " answers, " + wrong + " not as due");
        if (wrong != 0 || asked == 0) {
            System.exit(1);
        }
    }

    /** Puts a text into a new row of bytes, and answers what see() makes of it. */
    static int see(DunceSee x, int sheet, String text) {
        x.sheet(sheet, 0, text.length());
        for (int i = 0; i < text.length(); i++) {
            x.put(sheet, i, text.charAt(i));
        }
        return x.see(sheet, 0, 0, text.length());
    }

    static DunceSee told(String text) {
        DunceSee x = new DunceSee();
        if (see(x, 0, text) < 1) {
            throw new IllegalStateException("the test's own text is wrong: " + text);
        }
        return x;
    }

    /** A plan in a new row of ints of sheet 1. */
    static int plan(DunceSee x, int what, int... sets) {
        x.sheet(1, 2, sets.length);
        for (int i = 0; i < sets.length; i++) {
            x.put(1, i, sets[i]);
        }
        return x.plan(1, 2, 0, sets.length, what);
    }
}
