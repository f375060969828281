/** What the tests share: it prints every answer that is not due, and ends with 1 if there was one. */
final class Check {
    interface Call {
        void run();
    }

    private static int wrong = 0;

    private Check() {
    }

    static void is(String call, long got, long due) {
        if (got != due) {
            fail(call + " answered " + got + ", due is " + due);
        }
    }

    static void is(String call, boolean got, boolean due) {
        if (got != due) {
            fail(call + " answered " + got + ", due is " + due);
        }
    }

    static void is(String call, String got, String due) {
        if (!got.equals(due)) {
            fail(call + " answered " + got + ", due is " + due);
        }
    }

    static void throwsIndex(String call, Call run) {
        throwsJust(call, run, IndexOutOfBoundsException.class);
    }

    static void throwsArgument(String call, Call run) {
        throwsJust(call, run, IllegalArgumentException.class);
    }

    static void throwsState(String call, Call run) {
        throwsJust(call, run, IllegalStateException.class);
    }

    static void fail(String text) {
        wrong++;
        System.out.println(text);
    }

    static void end() {
        if (wrong > 0) {
            System.exit(1);
        }
    }

    /** The very class is asked for, since one below it would be the machine's own. */
    private static void throwsJust(String call, Call run, Class<?> due) {
        Class<?> thrown = null;
        try {
            run.run();
        } catch (RuntimeException e) {
            thrown = e.getClass();
            if (!isThrownByTheClub(e)) {
                fail(call + ": the machine or its library threw " + e);
            }
        }
        if (thrown != due) {
            fail(call + " threw " + thrown + ", due is " + due);
        }
    }

    static boolean isThrownByTheClub(RuntimeException e) {
        StackTraceElement[] stack = e.getStackTrace();
        return stack.length > 0 && stack[0].getClassName().startsWith("Bandwidthclub");
    }
}
