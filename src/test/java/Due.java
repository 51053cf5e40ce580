/** Compares answers with those that are due, prints each that is not, and ends with exit code 1 if there was one. */
final class Due {
    /** A call that answers a number. */
    interface Call {
        long answer();
    }

    static final Class<?> ARGUMENT = IllegalArgumentException.class;
    static final Class<?> STATE = IllegalStateException.class;
    static final Class<?> INDEX = IndexOutOfBoundsException.class;

    // BrokenTest wants tests to fail, and their failures are nothing to print then.
    private static boolean quiet = false;

    private final String title;
    private int checked = 0;
    private int wrong = 0;

    Due(String title) {
        this.title = title;
    }

    void same(String what, long got, long want) {
        check(got == want, what, Long.toString(got), Long.toString(want));
    }

    void same(String what, boolean got, boolean want) {
        check(got == want, what, Boolean.toString(got), Boolean.toString(want));
    }

    void sameDouble(String what, double got, double want) {
        check(Double.doubleToLongBits(got) == Double.doubleToLongBits(want), what,
                Double.toString(got), Double.toString(want));
    }

    void sameText(String what, String got, String want) {
        check(got.equals(want), what, got, want);
    }

    /** Wants just this class: one below it, such as ArrayIndexOutOfBoundsException, is the machine's. */
    void thrown(String what, Class<?> want, Call call) {
        check(outcome(call).equals(want.getName()), what, outcome(call), want.getName());
    }

    static String outcome(Call call) {
        try {
            return Long.toString(call.answer());
        } catch (RuntimeException e) {
            return e.getClass().getName();
        }
    }

    int wrong() {
        return wrong;
    }

    void end() {
        System.out.println(title + ": " + checked + " answers looked at, " + wrong + " not as due");
        if (wrong != 0 || checked == 0) {
            System.exit(1);
        }
    }

    private void check(boolean right, String what, String got, String want) {
        checked++;
        if (!right) {
            wrong++;
            if (wrong <= 50 && !quiet) {
                System.out.println(title + ": " + what + " answered " + got + ", due is " + want);
            }
        }
    }
}
