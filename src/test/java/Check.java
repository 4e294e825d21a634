/** Counts what is not as due, and ends the test with exit code 1 if there was such a thing. */
final class Check {
    interface Call {
        double answer();
    }

    private int wrong = 0;
    private int all = 0;
    private int parts = 0;
    private String part = "";

    /** A test of its own: what fails in it bears its name, and an exception out of it fails it alone. */
    void part(String name, Runnable steps) {
        parts++;
        part = name + ": ";
        int before = all;
        try {
            steps.run();
        } catch (RuntimeException e) {
            tell("threw " + e);
        }
        yes("something was checked", all > before);
        part = "";
    }

    void due(String what, double got, double want) {
        all++;
        if (got != want) {
            tell(what + " answered " + got + ", due is " + want);
        }
    }

    void due(String what, String got, String want) {
        all++;
        if (!got.equals(want)) {
            tell(what + " answered " + got + ", due is " + want);
        }
    }

    void yes(String what, boolean holds) {
        all++;
        if (!holds) {
            tell(what + " does not hold");
        }
    }

    void throwing(String what, Class<?> want, Call call) {
        due(what, outcome(call), want.getSimpleName());
    }

    /** The answer of a call as a text, or the simple name of what it throws. */
    static String outcome(Call call) {
        try {
            return Double.toString(call.answer());
        } catch (RuntimeException e) {
            return e.getClass().getSimpleName();
        }
    }

    boolean failed() {
        return wrong != 0;
    }

    void end() {
        String inParts = parts == 0 ? "" : " in " + parts + " tests";
        System.out.println(wrong + " of " + all + " checks failed" + inParts);
        if (wrong != 0) {
            System.exit(1);
        }
    }

    private void tell(String text) {
        wrong++;
        if (wrong <= 20) {
            System.out.println(part + text);
        }
    }
}
