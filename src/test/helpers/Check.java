import java.util.function.LongSupplier;

/** Compares answers with those that are due, and counts the wrong ones. */
public final class Check {
    public static final long INDEX = -1001, ARGUMENT = -1002, STATE = -1003;

    private static int wrong = 0;

    private Check() {
    }

    public static void due(String call, long got, long want) {
        if (got != want) {
            wrong++;
            System.out.println(call + " answered " + text(got) + ", due is " + text(want));
        }
    }

    public static void due(String call, boolean got, boolean want) {
        due(call, got ? 1 : 0, want ? 1 : 0);
    }

    public static void due(String what, String got, String want) {
        if (!got.equals(want)) {
            wrong++;
            System.out.println(what + " is\n" + got + "\ndue is\n" + want);
        }
    }

    /** The call throws just this exception: INDEX, ARGUMENT or STATE. */
    public static void dueThrow(String call, long exception, LongSupplier run) {
        due(call, answer(run), exception);
    }

    /** What a call answers: a number, or the constant of the exception that it throws. */
    public static long answer(LongSupplier run) {
        try {
            return run.getAsLong();
        } catch (RuntimeException e) {
            if (e.getClass() == IndexOutOfBoundsException.class) {
                return INDEX;
            }
            if (e.getClass() == IllegalArgumentException.class) {
                return ARGUMENT;
            }
            if (e.getClass() == IllegalStateException.class) {
                return STATE;
            }
            throw e;
        }
    }

    public static boolean isThrown(long answer) {
        return answer == INDEX || answer == ARGUMENT || answer == STATE;
    }

    public static void end() {
        System.out.println(wrong == 0 ? "all answers are as due" : wrong + " answers are not as due");
        if (wrong != 0) {
            System.exit(1);
        }
    }

    public static String text(long answer) {
        if (answer == INDEX) {
            return "IndexOutOfBoundsException";
        }
        if (answer == ARGUMENT) {
            return "IllegalArgumentException";
        }
        return answer == STATE ? "IllegalStateException" : Long.toString(answer);
    }
}
