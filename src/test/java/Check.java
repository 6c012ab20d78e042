/** Counts what is not as due; every test of the project ends with {@link #end}. */
final class Check {
    /** A call, whose answer is a number (a boolean counts 1 or 0). */
    interface Call {
        long answer();
    }

    static final Class<?> INDEX = IndexOutOfBoundsException.class;
    static final Class<?> ARGUMENT = IllegalArgumentException.class;
    static final Class<?> STATE = IllegalStateException.class;

    private static int wrong = 0;

    private Check() {
    }

    static void equal(String what, long got, long due) {
        if (got != due) {
            report(what + " answered " + got + ", due is " + due);
        }
    }

    static void yes(String what, boolean got) {
        equal(what, got ? 1 : 0, 1);
    }

    static void no(String what, boolean got) {
        equal(what, got ? 1 : 0, 0);
    }

    /** The very class counts: the machine's own exceptions are of classes below the due ones. */
    static void refuses(String what, Class<?> due, Call call) {
        Class<?> got = null;
        try {
            call.answer();
        } catch (RuntimeException thrown) {
            got = thrown.getClass();
        }
        if (got != due) {
            report(what + " threw " + (got == null ? "nothing" : got.getName()) + ", due is " + due.getName());
        }
    }

    static void report(String what) {
        wrong++;
        System.out.println("  " + what);
    }

    static void end() {
        if (wrong != 0) {
            System.out.println("  " + wrong + " wrong");
            System.exit(1);
        }
    }
}
