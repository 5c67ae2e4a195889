/** Compares answers with those that are due, and prints each that is not. */
final class Due {
    interface Call {
        Object answer();
    }

    private int wrong = 0;
    private String part = "";

    void part(String name) {
        part = name;
    }

    void is(String call, long got, long want) {
        if (got != want) {
            tell(call + " answered " + got + ", due is " + want);
        }
    }

    void is(String call, boolean got, boolean want) {
        is(call, got ? 1 : 0, want ? 1 : 0);
    }

    void is(String call, String got, String want) {
        if (!got.equals(want)) {
            tell(call + " answered " + got + ", due is " + want);
        }
    }

    void thrown(String call, Class<? extends RuntimeException> want, Call made) {
        try {
            tell(call + " answered " + made.answer() + ", due is " + want.getSimpleName());
        } catch (RuntimeException e) {
            if (e.getClass() != want) {
                tell(call + " threw " + e.getClass().getSimpleName() + ", due is " + want.getSimpleName());
            } else if (!isThrownByTheHouse(e)) {
                tell(call + " let the library throw");
            }
        }
    }

    void end() {
        if (wrong != 0) {
            System.exit(1);
        }
    }

    /** The language's rule 7: only by a throw statement of its own. */
    private static boolean isThrownByTheHouse(RuntimeException e) {
        StackTraceElement[] trace = e.getStackTrace();
        return trace.length > 0 && trace[0].getClassName().startsWith("CountHouse");
    }

    private void tell(String text) {
        wrong++;
        System.out.println(part + ": " + text);
    }
}
