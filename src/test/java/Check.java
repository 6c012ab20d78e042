/** Counts what is not as due; every test of the project ends with {@link #end}. */
final class Check {
    /** A call, whose answer is a number (a boolean counts 1 or 0). */
    interface Call {
        long answer();
    }

    static final Class<?> INDEX = IndexOutOfBoundsException.class;
    static final Class<?> ARGUMENT = IllegalArgumentException.class;
    static final Class<?> STATE = IllegalStateException.class;

    /** What a refusal counts as, where answers are put in a row. */
    static final long REFUSED_INDEX = Long.MIN_VALUE + 1;
    static final long REFUSED_ARGUMENT = Long.MIN_VALUE + 2;
    static final long REFUSED_STATE = Long.MIN_VALUE + 3;
    static final long BROKEN = Long.MIN_VALUE + 4;

    /** What is tested now; it stands ahead of each report. */
    static String at = "";

    private static int wrong = 0;

    private Check() {
    }

    static void equal(String what, long got, long due) {
        if (got != due) {
            report(what + " answered " + got + ", due is " + due);
        }
    }

    static void yes(String what, boolean got) {
        equal(what, got ? 1 : 0, 1);
    }

    static void no(String what, boolean got) {
        equal(what, got ? 1 : 0, 0);
    }

    static void refuses(String what, Class<?> due, Call call) {
        RuntimeException got = null;
        try {
            call.answer();
        } catch (RuntimeException thrown) {
            got = thrown;
        }
        if (got == null || got.getClass() != due || !isThrownByTheClass(got)) {
            report(what + " threw " + got + ", due is " + due.getName());
        }
    }

    /** The answer of a call, or the number that its refusal counts as. */
    static long outcome(Call call) {
        try {
            return call.answer();
        } catch (RuntimeException thrown) {
            if (!isThrownByTheClass(thrown)) {
                return BROKEN;
            }
            Class<?> kind = thrown.getClass();
            return kind == INDEX ? REFUSED_INDEX
                    : kind == ARGUMENT ? REFUSED_ARGUMENT
                    : kind == STATE ? REFUSED_STATE : BROKEN;
        }
    }

    /** What the machine or its library throws comes from elsewhere, or is of a class below. */
    static boolean isThrownByTheClass(RuntimeException thrown) {
        StackTraceElement[] trace = thrown.getStackTrace();
        return trace.length > 0 && trace[0].getClassName().startsWith("DeedProtocol");
    }

    static void report(String what) {
        wrong++;
        System.out.println("  " + at + what);
    }

    static void end() {
        if (wrong != 0) {
            System.out.println("  " + wrong + " wrong");
            System.exit(1);
        }
    }
}
