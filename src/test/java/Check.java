/** What the tests share: it prints every answer that is not due, and ends with 1 if there was one. */
final class Check {
    interface Call {
        void run();
    }

    private static int wrong = 0;
    private static String sentence = "";

    private Check() {
    }

    /** The sentence of the document that the next checks are of; told with each that fails. */
    static void sentence(String words) {
        sentence = " (the document: " + words + ")";
    }

    static void is(String call, long got, long due) {
        if (got != due) {
            fail(call + " answered " + got + ", due is " + due);
        }
    }

    static void is(String call, boolean got, boolean due) {
        if (got != due) {
            fail(call + " answered " + got + ", due is " + due);
        }
    }

    static void is(String call, String got, String due) {
        if (!got.equals(due)) {
            fail(call + " answered " + got + ", due is " + due);
        }
    }

    /** How much of its line each member has left. */
    static void lines(Bandwidthclub club, int... due) {
        for (int m = 0; m < due.length; m++) {
            is("line of " + m, club.member(m, 1), due[m]);
        }
    }

    /** The account of each member, as it is kept and as it is found anew. */
    static void accounts(Bandwidthclub club, int... due) {
        for (int m = 0; m < due.length; m++) {
            is("account of " + m, club.member(m, 3), due[m]);
            is("account of " + m + " anew", club.accountAnew(m), due[m]);
        }
    }

    /** One of two owes the other one so much, who owes nothing; as it is kept, and anew. */
    static void owes(Bandwidthclub club, int member, int other, int units) {
        is("owes(" + member + ", " + other + ")", club.owes(member, other), units);
        is("owes(" + other + ", " + member + ")", club.owes(other, member), 0);
        is("owesAnew(" + member + ", " + other + ")", club.owesAnew(member, other), units);
        is("owesAnew(" + other + ", " + member + ")", club.owesAnew(other, member), 0);
    }

    static void throwsIndex(String call, Call run) {
        throwsJust(call, run, IndexOutOfBoundsException.class);
    }

    static void throwsArgument(String call, Call run) {
        throwsJust(call, run, IllegalArgumentException.class);
    }

    static void throwsState(String call, Call run) {
        throwsJust(call, run, IllegalStateException.class);
    }

    static void throwsNothing(String call, Call run) {
        try {
            run.run();
        } catch (RuntimeException e) {
            fail(call + " threw " + e);
        }
    }

    static void fail(String text) {
        wrong++;
        System.out.println(text + sentence);
    }

    static void end() {
        if (wrong > 0) {
            System.exit(1);
        }
    }

    /** The very class is asked for, since one below it would be the machine's own. */
    private static void throwsJust(String call, Call run, Class<?> due) {
        Class<?> thrown = null;
        try {
            run.run();
        } catch (RuntimeException e) {
            thrown = e.getClass();
            if (!isThrownByTheClub(e)) {
                fail(call + ": the machine or its library threw " + e);
            }
        }
        if (thrown != due) {
            fail(call + " threw " + thrown + ", due is " + due);
        }
    }

    static boolean isThrownByTheClub(RuntimeException e) {
        StackTraceElement[] stack = e.getStackTrace();
        return stack.length > 0 && stack[0].getClassName().startsWith("Bandwidthclub");
    }
}
