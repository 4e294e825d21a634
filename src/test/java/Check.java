/** Counts what is not as due, and ends the test with exit code 1 if there was such a thing. */
final class Check {
    interface Call {
        double answer();
    }

    private int wrong = 0;
    private int all = 0;

    void due(String what, double got, double want) {
        all++;
        if (got != want) {
            tell(what + " answered " + got + ", due is " + want);
        }
    }

    void due(String what, String got, String want) {
        all++;
        if (!got.equals(want)) {
            tell(what + " answered " + got + ", due is " + want);
        }
    }

    void yes(String what, boolean holds) {
        all++;
        if (!holds) {
            tell(what + " does not hold");
        }
    }

    void throwing(String what, Class<?> want, Call call) {
        due(what, outcome(call), want.getSimpleName());
    }

    /** The answer of a call as a text, or the simple name of what it throws. */
    static String outcome(Call call) {
        try {
            return Double.toString(call.answer());
        } catch (RuntimeException e) {
            return e.getClass().getSimpleName();
        }
    }

    boolean failed() {
        return wrong != 0;
    }

    void end() {
        System.out.println(wrong + " of " + all + " checks failed");
        if (wrong != 0) {
            System.exit(1);
        }
    }

    private void tell(String text) {
        wrong++;
        if (wrong <= 20) {
            System.out.println(text);
        }
    }
}
