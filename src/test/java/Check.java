/** Compares answers with those that are due, counts and prints those that differ. */
final class Check {
    static final String INDEX = "IndexOutOfBoundsException";
    static final String ARGUMENT = "IllegalArgumentException";
    static final String STATE = "IllegalStateException";

    interface Call {
        int answer();
    }

    private static int wrong = 0;
    private static int compared = 0;

    static void due(String what, long want, long got) {
        compared++;
        if (want != got) {
            wrong++;
            System.out.println(what + ": answered " + got + ", due is " + want);
        }
    }

    static void due(String what, String want, String got) {
        compared++;
        if (!want.equals(got)) {
            wrong++;
            System.out.println(what + ": answered " + got + ", due is " + want);
        }
    }

    static void isThrown(String what, String exception, Call call) {
        due(what, exception, outcome(call));
    }

    static void isAllowed(String what, Call call) {
        String got = outcome(call);
        due(what, "an answer", got.endsWith("Exception") ? got : "an answer");
    }

    /** The answer, or the name of the exception. */
    static String outcome(Call call) {
        try {
            return Integer.toString(call.answer());
        } catch (RuntimeException e) {
            return e.getClass().getSimpleName();
        }
    }

    static void finish() {
        System.out.println(compared + " answers compared, " + wrong + " wrong");
        if (wrong != 0 || compared == 0) {
            System.exit(1);
        }
    }
}
