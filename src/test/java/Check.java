/** Compares answers with those that are due, and ends a test with exit code 1 if one was wrong. */
final class Check {
    /** A call whose answer is compared. */
    interface Call {
        Object answer();
    }

    private static final int MOST_TOLD = 40;
    private static int made = 0;
    private static int wrong = 0;

    private Check() {
    }

    /** The answer of a call as a text; "throws X" if it throws X. */
    static String told(Call call) {
        try {
            return String.valueOf(call.answer());
        } catch (RuntimeException e) {
            String origin = isByTheProgram(e) ? "" : " of the library or the machine";
            return "throws " + e.getClass().getSimpleName() + origin;
        }
    }

    /** A list or the machine throws the same classes, but the program must throw each exception itself. */
    private static boolean isByTheProgram(RuntimeException e) {
        StackTraceElement[] trace = e.getStackTrace();
        if (trace.length == 0) {
            return false;
        }
        String thrower = trace[0].getClassName();
        return thrower.startsWith("Pirateindex") || thrower.startsWith("PlainModel");
    }

    static void due(String what, Object want, Call call) {
        same(what, String.valueOf(want), told(call));
    }

    static void thrown(String what, Class<? extends RuntimeException> want, Call call) {
        same(what, "throws " + want.getSimpleName(), told(call));
    }

    static void same(String what, String want, String got) {
        made++;
        if (!want.equals(got)) {
            wrong++;
            if (wrong <= MOST_TOLD) {
                System.out.println(what + " answered " + got + ", due is " + want);
            }
        }
    }

    static void end(String test) {
        System.out.println(test + ": " + (made - wrong) + " of " + made + " answers are as due");
        if (wrong != 0 || made == 0) {
            System.exit(1);
        }
    }
}
