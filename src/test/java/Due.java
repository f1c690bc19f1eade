/** Compares answers with those that are due, and tells each one that is not. */
final class Due {
    private final String test;
    private int asked;
    private int wrong;

    Due(String test) {
        this.test = test;
    }

    void is(String call, long got, long want) {
        asked++;
        if (got != want) {
            wrong++;
            System.out.println(test + ": " + call + " answered " + got + ", due is " + want);
        }
    }

    void holds(String what, boolean so) {
        is(what, so ? 1 : 0, 1);
    }

    /** What the machine itself threw is never due. */
    void broke(Throwable thrown) {
        wrong++;
        System.out.println(test + ": " + thrown);
        thrown.printStackTrace(System.out);
    }

    int asked() {
        return asked;
    }

    /** A test that asked nothing has held nothing. */
    boolean held() {
        return wrong == 0 && asked > 0;
    }

    /** Ends a test that is a program of its own. */
    void end() {
        System.out.println(test + ": " + asked + " answers, " + wrong + " not as due");
        if (!held()) {
            System.exit(1);
        }
    }
}
