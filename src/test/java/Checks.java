import java.util.concurrent.Callable;

/** Counts and prints the answers that are not the ones that are due. */
final class Checks {
    private static int wrong = 0;

    private Checks() {
    }

    static void same(String call, Object got, Object want) {
        if (!got.equals(want)) {
            wrong++;
            System.out.println(call + " answered " + got + ", due is " + want);
        }
    }

    static void yes(String call, boolean got) {
        same(call, got, true);
    }

    static void no(String call, boolean got) {
        same(call, got, false);
    }

    static void throwing(String call, Class<? extends Exception> want, Callable<?> body) {
        same(call, answerOf(body), want.getSimpleName());
    }

    /** The answer of a call, or the name of what it throws. */
    static Object answerOf(Callable<?> body) {
        try {
            return body.call();
        } catch (Exception thrown) {
            boolean machine = "/ by zero".equals(thrown.getMessage());
            return (machine ? "the machine's " : "") + thrown.getClass().getSimpleName();
        }
    }

    static void finish() {
        if (wrong > 0) {
            System.out.println(wrong + " answers are not as due");
            System.exit(1);
        }
    }
}
