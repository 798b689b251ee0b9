/** Counts the answers that are not as due, and prints each of them. */
final class Due {
    /** A call whose exception is looked at. */
    interface Call {
        void make();
    }

    private final String test;
    private String about = "";
    private int looked = 0;
    private int wrong = 0;

    Due(String test) {
        this.test = test;
    }

    void is(String what, long got, long want) {
        looked++;
        if (got != want) {
            tell(what + " answered " + got + ", due is " + want);
        }
    }

    void is(String what, boolean got, boolean want) {
        is(what, got ? 1 : 0, want ? 1 : 0);
    }

    void isDouble(String what, double got, double want) {
        looked++;
        if (Double.compare(got, want) != 0) {
            tell(what + " answered " + got + ", due is " + want);
        }
    }

    void isText(String what, String got, String want) {
        looked++;
        if (!got.equals(want)) {
            tell(what + " answered " + got + ", due is " + want);
        }
    }

    // The very class is asked for: the machine's own exceptions are below the document's.
    void isThrown(String what, Class<? extends RuntimeException> want, Call call) {
        looked++;
        String got = "nothing";
        try {
            call.make();
        } catch (RuntimeException e) {
            got = e.getClass().getSimpleName();
        }
        if (!got.equals(want.getSimpleName())) {
            tell(what + " throws " + got + ", due is " + want.getSimpleName());
        }
    }

    /** Runs the test of one sentence of the document; what is wrong is told behind its words. */
    void sentence(String words, Runnable look) {
        int before = looked;
        about = "\"" + words + "\": ";
        try {
            look.run();
        } catch (RuntimeException e) {
            tell("the test was ended by " + e);
        }
        if (looked == before) {
            tell("nothing was looked at");
        }
        about = "";
    }

    void tell(String what) {
        wrong++;
        System.out.println(test + ": " + about + what);
    }

    int wrong() {
        return wrong;
    }

    void end() {
        System.out.println(test + ": " + looked + " answers looked at, " + wrong + " not as due");
        if (wrong != 0) {
            System.exit(1);
        }
    }
}
