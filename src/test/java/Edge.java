/**
 * Calls at an edge. Each one is done to an object of its own: so none comes near the 512 calls that an
 * object is used for, and none leans on what another one left behind.
 */
final class Edge {
    static final String BOUNDS = "throws.IndexOutOfBoundsException";
    static final String ARGUMENT = "throws.IllegalArgumentException";
    static final String STATE = "throws.IllegalStateException";

    interface Making {
        LevelRows made();
    }

    interface Asking {
        long answer(LevelRows x);
    }

    private Edge() {
    }

    static void allowed(String call, Making making, Asking asking, long want) {
        LevelRows x = making.made();
        Check.dueText(call, Check.told(() -> asking.answer(x)), Long.toString(want));
    }

    /** The refused call is done to one of two like objects, which must answer alike after it. */
    static void refused(String call, Making making, Asking asking, String want) {
        LevelRows x = making.made();
        LevelRows like = making.made();
        Check.dueText(call, Check.told(() -> asking.answer(x)), want);
        Check.dueText(call + " changes nothing", state(x), state(like));
    }

    static long bit(boolean answer) {
        return answer ? 1 : 0;
    }

    /** Some 110 answers: what there is, and how the object goes on from there. */
    private static String state(LevelRows x) {
        StringBuilder s = new StringBuilder();
        int levels = x.about(0);
        s.append(levels).append(' ').append(x.about(1)).append(' ').append(x.about(2));
        addLevel(s, x, 0);
        for (int a = levels - 3; a <= levels; a++) {
            addLevel(s, x, a);
        }
        s.append("; ").append(x.isSolved());
        for (int i = 0; i <= 10; i++) {
            s.append(' ').append(x.solution(i));
        }
        for (int n = 0; n <= 30; n++) {
            s.append(' ').append(x.isClash(n));
        }
        s.append("; ").append(Check.told(x::zero)).append(' ').append(Check.told(() -> x.parameter(3)));
        s.append(' ').append(Check.told(() -> x.next(0))).append(' ').append(Check.told(() -> x.join(0, 0, true)));
        s.append(' ').append(Check.told(x::unknown)).append(' ').append(Check.told(() -> x.need(0, 1, 0)));
        s.append(' ').append(x.isSolved()).append(' ').append(x.undo()).append(' ').append(x.isSolved());
        return s.toString();
    }

    private static void addLevel(StringBuilder s, LevelRows x, int a) {
        s.append("; ").append(a).append(':');
        for (int what = 0; what < 3; what++) {
            s.append(' ').append(x.level(a, what));
        }
        s.append(' ').append(x.value(a, Make.at(3, 2, 1, 0, 5)));
        s.append(' ').append(Check.told(() -> x.part(a, 31, LevelRows.NONE)));
        s.append(' ').append(Check.told(() -> x.part(a, 1, 0)));
    }
}
