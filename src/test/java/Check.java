import java.util.NoSuchElementException;

/** Compares answers with those that are due and counts what is wrong. */
final class Check {
    static final String IAE = "throws.IllegalArgumentException";
    static final String AE = "throws.ArithmeticException";
    static final String ISE = "throws.IllegalStateException";
    static final String UOE = "throws.UnsupportedOperationException";
    static final String NSEE = "throws.NoSuchElementException";

    private static int checks = 0;
    private static int wrong = 0;
    private static String part = "";

    private Check() {
    }

    interface Call {
        Object go();
    }

    static void part(String name) {
        part = name;
    }

    /** What a call does, as a text: its answer, or the exception that it throws. */
    static String outcome(Call call) {
        try {
            return String.valueOf(call.go());
        } catch (IllegalArgumentException | ArithmeticException | IllegalStateException
                | UnsupportedOperationException | NoSuchElementException e) {
            return "throws." + e.getClass().getSimpleName();
        }
    }

    static void due(Object due, Call call) {
        same(String.valueOf(due), outcome(call));
    }

    static void same(String due, String got) {
        checks++;
        if (!due.equals(got)) {
            wrong++;
            StackTraceElement where = caller();
            System.out.println(part + " (" + where.getFileName() + ":" + where.getLineNumber() + "): got "
                    + got + ", due is " + due);
        }
    }

    /** Runs a test to its end: what reaches it against its will is wrong, but the other tests still run. */
    static void ends(Runnable test) {
        try {
            test.run();
        } catch (RuntimeException | StackOverflowError e) {
            checks++;
            wrong++;
            System.out.println(part + ": ended by " + e + " at " + e.getStackTrace()[0]);
        }
    }

    static void holds(String what, boolean holds) {
        same(what + ": true", what + ": " + holds);
    }

    private static StackTraceElement caller() {
        for (StackTraceElement frame : new Throwable().getStackTrace()) {
            if (!frame.getClassName().equals("Check")) {
                return frame;
            }
        }
        throw new AssertionError("no caller");
    }

    static void end() {
        System.out.println(checks + " checks, " + wrong + " wrong");
        if (wrong != 0) {
            System.exit(1);
        }
    }
}
