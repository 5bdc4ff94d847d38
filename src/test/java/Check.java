/** Counts the answers that are not as due, prints them, and ends a test by that count. */
final class Check {
    static final int LAST_INT = Integer.MAX_VALUE;
    static final int FIRST_INT = Integer.MIN_VALUE;

    private static int asked = 0;
    private static int wrong = 0;

    interface Call {
        long answer();
    }

    private Check() {
    }

    static void due(String call, long got, long want) {
        asked++;
        if (got != want) {
            wrong++;
            System.out.println(call + " answered " + got + ", due is " + want);
        }
    }

    static void due(String call, boolean got, boolean want) {
        due(call, got ? 1 : 0, want ? 1 : 0);
    }

    static void dueText(String call, String got, String want) {
        asked++;
        if (!got.equals(want)) {
            wrong++;
            System.out.println(call + " answered " + got + ", due is " + want);
        }
    }

    static void dueOutOfBounds(String call, Call c) {
        dueText(call, told(c), "throws.IndexOutOfBoundsException");
    }

    static void dueArgument(String call, Call c) {
        dueText(call, told(c), "throws.IllegalArgumentException");
    }

    static void dueState(String call, Call c) {
        dueText(call, told(c), "throws.IllegalStateException");
    }

    /** The very class counts: an ArrayIndexOutOfBoundsException of the machine's is not as due. */
    static String told(Call c) {
        try {
            return Long.toString(c.answer());
        } catch (RuntimeException e) {
            return "throws." + e.getClass().getSimpleName();
        }
    }

    static void end() {
        System.out.println(asked + " answers, " + wrong + " not as due");
        if (wrong != 0 || asked == 0) {
            System.exit(1);
        }
    }
}
