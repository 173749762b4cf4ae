/** Counts what is not as due, prints it, and ends a test. */
final class Checks {
    /** A call whose answer, or whose exception, is looked at. */
    interface Call {
        long run();
    }

    private int looked = 0;
    private int wrong = 0;

    void due(String what, long got, long want) {
        looked++;
        if (got != want) {
            wrong++;
            System.out.println(what + " answered " + got + ", due is " + want);
        }
    }

    void due(String what, String got, String want) {
        looked++;
        if (!got.equals(want)) {
            wrong++;
            System.out.println(what + " answered " + got + ", due is " + want);
        }
    }

    void noRange(String what, Call call) {
        refuses(what, call, "IllegalArgumentException");
    }

    void noState(String what, Call call) {
        refuses(what, call, "IllegalStateException");
    }

    void noIndex(String what, Call call) {
        refuses(what, call, "IndexOutOfBoundsException");
    }

    private void refuses(String what, Call call, String exception) {
        due(what, outcome(call), "throws." + exception);
    }

    static String outcome(Call call) {
        try {
            return Long.toString(call.run());
        } catch (RuntimeException e) {
            return "throws." + e.getClass().getSimpleName() + (isByTheMachine(e) ? " by the machine" : "");
        }
    }

    /** What the program throws, it throws by its own lines, and not by those of the library. */
    private static boolean isByTheMachine(RuntimeException e) {
        StackTraceElement[] trace = e.getStackTrace();
        return trace.length == 0 || trace[0].getClassName().startsWith("java.")
                || trace[0].getClassName().startsWith("jdk.");
    }

    boolean hasWrong() {
        return wrong != 0;
    }

    void end() {
        System.out.println(looked + " looked at, " + wrong + " wrong");
        if (wrong != 0 || looked == 0) {
            System.exit(1);
        }
    }
}
