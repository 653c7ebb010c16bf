/** What all tests share: it counts answers that are not due, and ends the test with exit code 1 if there was one. */
final class Check {
    static final Class<?> INDEX = IndexOutOfBoundsException.class;
    static final Class<?> ARGUMENT = IllegalArgumentException.class;
    static final Class<?> STATE = IllegalStateException.class;

    private static int wrong = 0;
    private static int checks = 0;

    private Check() {
    }

    static void due(String call, long got, long want) {
        checks++;
        if (got != want) {
            wrong++;
            System.out.println(call + " answered " + got + ", due is " + want);
        }
    }

    static void due(String call, boolean got, boolean want) {
        due(call, got ? 1 : 0, want ? 1 : 0);
    }

    static void refused(String call, Class<?> kind, Runnable made) {
        checks++;
        try {
            made.run();
        } catch (RuntimeException thrown) {
            if (thrown.getClass() != kind || !isWritten(thrown)) {
                wrong++;
                System.out.println(call + " throws " + thrown + ", due is " + kind.getName());
            }
            return;
        }
        wrong++;
        System.out.println(call + " throws nothing, due is " + kind.getName());
    }

    /** Whether a statement of the class threw it, and not the machine or the library. */
    static boolean isWritten(RuntimeException thrown) {
        Class<?> kind = thrown.getClass();
        StackTraceElement[] trace = thrown.getStackTrace();
        return (kind == INDEX || kind == ARGUMENT || kind == STATE)
            && trace.length > 0 && trace[0].getClassName().startsWith("NightValley")
            && thrown.getMessage() == null;
    }

    static void end() {
        if (checks == 0 || wrong != 0) {
            System.out.println(wrong + " of " + checks + " answers are not as due");
            System.exit(1);
        }
    }
}
