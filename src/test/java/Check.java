import java.util.Arrays;

/** What all tests share: it counts answers that are not due, and ends the test with exit code 1 if there was one. */
final class Check {
    static final Class<?> INDEX = IndexOutOfBoundsException.class;
    static final Class<?> ARGUMENT = IllegalArgumentException.class;
    static final Class<?> STATE = IllegalStateException.class;

    private static int wrong = 0;
    private static int checks = 0;
    private static String test = "";

    private Check() {
    }

    static void due(String call, long got, long want) {
        checks++;
        if (got != want) {
            tell(call + " answered " + got + ", due is " + want);
        }
    }

    private static void tell(String text) {
        wrong++;
        System.out.println(test + text);
    }

    /** Runs a test of a name, which stands ahead of all that is wrong in it; one that checks nothing is wrong too. */
    static void within(String name, Runnable made) {
        int before = checks;
        test = name;
        made.run();
        if (checks == before) {
            tell("checks nothing");
        }
        test = "";
    }

    static void broken(Throwable thrown) {
        checks++;
        tell("ends by " + thrown + " at " + Arrays.toString(thrown.getStackTrace()));
    }

    static void due(String call, boolean got, boolean want) {
        due(call, got ? 1 : 0, want ? 1 : 0);
    }

    static void refused(String call, Class<?> kind, Runnable made) {
        checks++;
        try {
            made.run();
        } catch (RuntimeException thrown) {
            if (thrown.getClass() != kind || !isWritten(thrown)) {
                tell(call + " throws " + thrown + ", due is " + kind.getName());
            }
            return;
        }
        tell(call + " throws nothing, due is " + kind.getName());
    }

    /** Whether a statement of the class threw it, and not the machine or the library. */
    static boolean isWritten(RuntimeException thrown) {
        Class<?> kind = thrown.getClass();
        StackTraceElement[] trace = thrown.getStackTrace();
        return (kind == INDEX || kind == ARGUMENT || kind == STATE)
            && trace.length > 0 && trace[0].getClassName().startsWith("NightValley")
            && thrown.getMessage() == null;
    }

    static void end() {
        if (checks == 0 || wrong != 0) {
            System.out.println(wrong + " of " + checks + " answers are not as due");
            System.exit(1);
        }
    }
}
