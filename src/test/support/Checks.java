/** What the tests count: answers that are not the ones that are due. */
public final class Checks {
    public interface Call {
        long answer();
    }

    public static final long INDEX = 1L << 40, ARGUMENT = 2L << 40, STATE = 3L << 40;
    private static int asked = 0;
    private static int wrong = 0;
    private static String where = "";

    private Checks() {
    }

    /** Tells what the questions from now on belong to. */
    public static void within(String part) {
        where = part;
    }

    public static int asked() {
        return asked;
    }

    public static void due(String what, long got, long want) {
        asked++;
        if (got != want) {
            wrong++;
            System.out.println(where + what + " answered " + named(got) + ", due is " + named(want));
        }
    }

    public static void due(String what, boolean got, boolean want) {
        due(what, got ? 1 : 0, want ? 1 : 0);
    }

    public static void throwsIt(String what, long want, Call call) {
        due(what, of(call), want);
    }

    /** The answer of a call, or INDEX, ARGUMENT or STATE for exactly the exception that it throws. */
    public static long of(Call call) {
        try {
            return call.answer();
        } catch (RuntimeException e) {
            // What the machine or the library throws is no answer, even if it is of the class that is due.
            if (!e.getStackTrace()[0].getClassName().matches("BookExchange|Model")) {
                throw e;
            }
            if (e.getClass() == IndexOutOfBoundsException.class) {
                return INDEX;
            }
            if (e.getClass() == IllegalArgumentException.class) {
                return ARGUMENT;
            }
            if (e.getClass() == IllegalStateException.class) {
                return STATE;
            }
            throw e;
        }
    }

    public static String named(long answer) {
        return answer == INDEX ? "throws.IndexOutOfBoundsException"
            : answer == ARGUMENT ? "throws.IllegalArgumentException"
            : answer == STATE ? "throws.IllegalStateException" : Long.toString(answer);
    }

    public static boolean isWrong() {
        return wrong != 0;
    }

    public static void end(String name) {
        System.out.println(name + ": " + (asked - wrong) + " of " + asked + " answers are as due");
        if (wrong != 0) {
            System.exit(1);
        }
    }
}
