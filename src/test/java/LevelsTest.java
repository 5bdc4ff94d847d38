/** Promises 1 to 7 and 20: which levels there are, and what they are. */
final class LevelsTest {
    private static final int NONE = LevelRows.NONE;
    private static final int[] NO_PARAMETERS = {-1, 5, 6, 31, Check.LAST_INT, Check.FIRST_INT};

    private LevelsTest() {
    }

    public static void main(String[] args) {
        newObject();
        zero();
        parameter();
        next();
        nextThroughJoins();
        join();
        level();
        putPlaces();
        putOrder();
        putKeepsWhatWasMade();
        putSharedParts();
        putWrong();
        about();
        fullObject();
        Check.end();
    }

    private static void newObject() {
        LevelRows x = new LevelRows();
        for (int what = 0; what < 3; what++) {
            Check.due("new: about(" + what + ")", x.about(what), 0);
        }
        Check.due("new: level(0, 0)", x.level(0, 0), NONE);
        Check.due("new: value(0, 0)", x.value(0, 0), NONE);
        Check.due("new: isSolved()", x.isSolved(), true);
        Check.due("new: solution(0)", x.solution(0), NONE);
        Check.due("new: isClash(0)", x.isClash(0), false);
        Check.due("new: undo()", x.undo(), false);
        Check.dueOutOfBounds("new: next(0)", () -> x.next(0));
        Check.dueOutOfBounds("new: join(0, 0, true)", () -> x.join(0, 0, true));
        Check.dueOutOfBounds("new: put(0, 0, 0)", () -> x.put(0, 0, 0));
        Check.dueOutOfBounds("new: part(0, 0, 0)", () -> x.part(0, 0, 0));
        Check.dueOutOfBounds("new: isAtMost(0, 0)", () -> x.isAtMost(0, 0) ? 1 : 0);
        Check.dueOutOfBounds("new: isSame(0, 0)", () -> x.isSame(0, 0) ? 1 : 0);
        Check.dueOutOfBounds("new: least(0)", () -> x.least(0));
        Check.dueOutOfBounds("new: above(0, 0)", () -> x.above(0, 0));
        Check.dueOutOfBounds("new: need(0, 0, 0)", () -> x.need(0, 0, 0));
        LevelRows y = new LevelRows();
        x.parameter(1);
        x.unknown();
        Check.due("another object: about(0)", y.about(0), 0);
        Check.due("another object: about(1)", y.about(1), 0);
    }

    private static void zero() {
        LevelRows x = new LevelRows();
        Check.due("zero()", x.zero(), 0);
        Check.due("zero() again", x.zero(), 0);
        Check.due("about(0) after zero() twice", x.about(0), 1);
        LevelRows y = new LevelRows();
        y.parameter(3);
        Check.due("zero() behind a parameter", y.zero(), 1);
        Check.due("its kind", y.level(1, 0), 0);
    }

    private static void parameter() {
        LevelRows x = new LevelRows();
        for (int p = 4; p >= 0; p--) {
            Check.due("parameter(" + p + ")", x.parameter(p), 4 - p);
        }
        for (int p = 0; p < 5; p++) {
            Check.due("parameter(" + p + ") again", x.parameter(p), 4 - p);
        }
        for (int p : NO_PARAMETERS) {
            Check.dueOutOfBounds("parameter(" + p + ")", () -> x.parameter(p));
        }
        Check.due("about(0) after the parameters", x.about(0), 5);
    }

    private static void next() {
        LevelRows x = new LevelRows();
        x.parameter(0);
        x.zero();
        Check.due("next(0)", x.next(0), 2);
        Check.due("next(1)", x.next(1), 3);
        Check.due("next(0) again", x.next(0), 2);
        for (int a : new int[] {-1, 4, 120, Check.LAST_INT, Check.FIRST_INT}) {
            Check.dueOutOfBounds("next(" + a + ")", () -> x.next(a));
        }
        int deepest = Make.nexts(x, 0, 60);
        Check.due("60 NEXTs", deepest, 62);
        Check.dueArgument("61 NEXTs", () -> x.next(deepest));
        Check.due("about(0) after 61 NEXTs", x.about(0), 63);
        Check.due("60 NEXTs again", x.next(deepest - 1), deepest);
        Check.due("another row of NEXTs", x.next(3), 63);
    }

    private static void nextThroughJoins() {
        for (int way = 0; way < 4; way++) {
            LevelRows x = new LevelRows();
            int p = x.parameter(0);
            int z = x.zero();
            int half = Make.nexts(x, p, 31);
            boolean unless = way / 2 == 1;
            int joined = way % 2 == 0 ? x.join(half, z, unless) : x.join(z, half, unless);
            int deepest = Make.nexts(x, joined, 29);
            Check.dueArgument("61 NEXTs through a join, way " + way, () -> x.next(deepest));
            int both = x.join(deepest, deepest, unless);
            Check.due("join of 60 NEXTs, way " + way, x.level(both, 1), deepest);
            Check.dueArgument("61 NEXTs, a join on top, way " + way, () -> x.next(both));
            Check.due("a row beside them, way " + way, x.level(x.next(x.next(z)), 0), 2);
        }
    }

    private static void join() {
        LevelRows x = new LevelRows();
        x.zero();
        x.parameter(0);
        Check.due("join(0, 1, false)", x.join(0, 1, false), 2);
        Check.due("join(0, 1, true)", x.join(0, 1, true), 3);
        Check.due("join(1, 0, false)", x.join(1, 0, false), 4);
        Check.due("join(1, 0, true)", x.join(1, 0, true), 5);
        Check.due("join(1, 1, false)", x.join(1, 1, false), 6);
        Check.due("join(0, 1, false) again", x.join(0, 1, false), 2);
        Check.due("join(0, 1, true) again", x.join(0, 1, true), 3);
        Check.due("join(1, 0, true) again", x.join(1, 0, true), 5);
        Check.due("about(0) after joins", x.about(0), 7);
        for (int a : new int[] {-1, 7, Check.LAST_INT, Check.FIRST_INT}) {
            Check.dueOutOfBounds("join(" + a + ", 0, false)", () -> x.join(a, 0, false));
            Check.dueOutOfBounds("join(0, " + a + ", true)", () -> x.join(0, a, true));
            Check.dueOutOfBounds("join(" + a + ", " + a + ", true)", () -> x.join(a, a, true));
        }
        Check.due("about(0) after wrong joins", x.about(0), 7);
    }

    private static void level() {
        LevelRows x = new LevelRows();
        x.zero();
        x.parameter(4);
        x.next(1);
        x.join(2, 0, false);
        x.join(1, 3, true);
        int[][] due = {{0, NONE, NONE}, {1, 4, NONE}, {2, 1, NONE}, {3, 2, 0}, {4, 1, 3}};
        for (int a = 0; a < due.length; a++) {
            for (int what = 0; what < 3; what++) {
                Check.due("level(" + a + ", " + what + ")", x.level(a, what), due[a][what]);
            }
            for (int what : new int[] {-1, 3, 4, Check.LAST_INT, Check.FIRST_INT}) {
                Check.due("level(" + a + ", " + what + ")", x.level(a, what), NONE);
            }
        }
        for (int a : new int[] {-1, 5, 120, Check.LAST_INT, Check.FIRST_INT}) {
            for (int what = -1; what < 4; what++) {
                Check.due("level(" + a + ", " + what + ")", x.level(a, what), NONE);
            }
        }
    }

    private static void putPlaces() {
        LevelRows x = new LevelRows();
        int p = x.parameter(0);
        int q = x.parameter(1);
        int z = x.zero();
        int np = x.next(p);
        int u = x.join(np, q, true);
        int size = x.about(0);
        Check.due("put of a parameter", x.put(p, 0, u), u);
        Check.due("put of another parameter", x.put(q, 0, u), q);
        Check.due("put into ZERO", x.put(z, 0, u), z);
        Check.due("put of a parameter that is not in it", x.put(u, 4, z), u);
        Check.due("put of a parameter for itself", x.put(u, 0, p), u);
        Check.due("about(0) after these", x.about(0), size);
        Check.due("put into the first level", x.put(u, 0, z), size + 1);
        Check.due("its NEXT", x.level(size, 1), z);
        Check.due("its UNLESS", x.level(size + 1, 0), 4);
        Check.due("its UNLESS's first", x.level(size + 1, 1), size);
        Check.due("its UNLESS's second", x.level(size + 1, 2), q);
        Check.due("put into the second level", x.put(u, 1, z), size + 2);
        Check.due("its first stays", x.level(size + 2, 1), np);
        Check.due("its second", x.level(size + 2, 2), z);
        Check.due("put of a level with the parameter in it", x.put(u, 0, u), size + 4);
        Check.due("that one is left as it is", x.level(size + 3, 1), u);
        Check.due("the same put again", x.put(u, 0, u), size + 4);
        Check.due("about(0) in the end", x.about(0), size + 5);
        int g = x.join(p, p, false);
        int made = x.put(g, 0, np);
        Check.due("put in both places: kind", x.level(made, 0), 3);
        Check.due("put in both places: first", x.level(made, 1), np);
        Check.due("put in both places: second", x.level(made, 2), np);
    }

    /** The second level has the lower number here, and still the first one is made first. */
    private static void putOrder() {
        LevelRows x = new LevelRows();
        int p = x.parameter(2);
        int low = x.next(p);
        int high = x.next(low);
        int both = x.join(high, low, false);
        int left = x.join(p, both, true);
        int top = x.join(left, x.join(low, p, true), false);
        int z = x.zero();
        int size = x.about(0);
        int made = x.put(top, 2, z);
        int[][] due = {{2, z, NONE}, {2, size, NONE}, {3, size + 1, size}, {4, z, size + 2}, {4, size, z},
            {3, size + 3, size + 4}};
        Check.due("put of all of these", made, size + 5);
        Check.due("about(0)", x.about(0), size + 6);
        for (int i = 0; i < due.length; i++) {
            for (int what = 0; what < 3; what++) {
                Check.due("made " + i + ", " + what, x.level(size + i, what), due[i][what]);
            }
        }
        LevelRows y = new LevelRows();
        int yp = y.parameter(0);
        int second = y.next(yp);
        int first = y.join(yp, yp, true);
        int pair = y.join(first, second, false);
        int yz = y.zero();
        Check.due("put of a pair", y.put(pair, 0, yz), 7);
        Check.due("the first one is made first", y.level(5, 0), 4);
        Check.due("the second one behind it", y.level(6, 0), 2);
    }

    private static void putKeepsWhatWasMade() {
        LevelRows x = new LevelRows();
        int p = x.parameter(0);
        int deep = Make.nexts(x, p, 40);
        int q = x.parameter(1);
        int top = x.join(x.join(p, q, true), deep, false);
        int by = Make.nexts(x, q, 21);
        int size = x.about(0);
        Check.dueArgument("put of 21 NEXTs under 40", () -> x.put(top, 0, by));
        Check.due("one level for UNLESS, 39 NEXTs stay", x.about(0), size + 40);
        Check.due("the first of these", x.level(size, 0), 4);
        Check.due("the last of these", x.level(size + 39, 0), 2);
        Check.due("put of 20 NEXTs under 40: no more new ones", x.put(deep, 0, by - 1), size + 39);

        LevelRows y = new LevelRows();
        int row = Make.nexts(y, y.parameter(0), 10);
        int z = y.zero();
        int last = Make.fill(y, z, 113);
        Check.due("levels ahead of the put", y.about(0), 113);
        Check.dueState("put of 10 NEXTs where 7 fit", () -> y.put(row, 0, last));
        Check.due("they stay", y.about(0), 120);
        Check.due("the last of them", y.level(119, 1), 118);
        Check.due("put that makes none", y.put(row - 3, 0, last), 119);
        Check.dueState("put that makes one", () -> y.put(row - 2, 0, last));
    }

    /** Joins of a level with itself, 59 deep: without each result kept this would take 2^59 steps. */
    private static void putSharedParts() {
        LevelRows x = new LevelRows();
        int p = x.parameter(0);
        int top = Make.fill(x, p, 60);
        int z = x.zero();
        Check.due("put under 59 joins", x.put(top, 0, z), 119);
        Check.due("about(0) behind them", x.about(0), 120);
        Check.due("value of it", x.value(119, 5), 0);
        Check.due("value of the old one", x.value(top, 5), 5);
        Check.due("same as ZERO", x.isSame(119, z), true);
        LevelRows y = new LevelRows();
        int deepest = Make.fill(y, y.parameter(0), 120);
        Check.due("119 joins deep, for itself", y.put(deepest, 0, 0), deepest);
        Check.dueState("119 joins deep, for another", () -> y.put(deepest, 0, 1));
    }

    private static void putWrong() {
        LevelRows x = new LevelRows();
        x.parameter(0);
        x.zero();
        for (int a : new int[] {-1, 2, Check.LAST_INT, Check.FIRST_INT}) {
            Check.dueOutOfBounds("put(" + a + ", 0, 0)", () -> x.put(a, 0, 0));
            Check.dueOutOfBounds("put(0, 0, " + a + ")", () -> x.put(0, 0, a));
            Check.dueOutOfBounds("put(1, 0, " + a + ")", () -> x.put(1, 0, a));
        }
        for (int p : NO_PARAMETERS) {
            Check.dueOutOfBounds("put(0, " + p + ", 1)", () -> x.put(0, p, 1));
            Check.dueOutOfBounds("put(1, " + p + ", 1)", () -> x.put(1, p, 1));
        }
        Check.due("about(0) after wrong puts", x.about(0), 2);
    }

    private static void about() {
        LevelRows x = new LevelRows();
        x.zero();
        x.parameter(0);
        x.next(0);
        x.unknown();
        x.unknown();
        x.need(0, 1, 1);
        Check.due("about(0)", x.about(0), 3);
        Check.due("about(1)", x.about(1), 2);
        Check.due("about(2)", x.about(2), 1);
        for (int what : new int[] {-1, 3, 4, Check.LAST_INT, Check.FIRST_INT}) {
            Check.due("about(" + what + ")", x.about(what), NONE);
        }
        x.undo();
        Check.due("about(2) after undo()", x.about(2), 0);
    }

    private static void fullObject() {
        LevelRows x = new LevelRows();
        int p = x.parameter(1);
        int deepest = Make.nexts(x, p, 60);
        int last = Make.fill(x, p, 119);
        Check.due("the 120th level", x.join(p, last, true), 119);
        Check.dueState("full: zero()", x::zero);
        Check.dueState("full: parameter(0)", () -> x.parameter(0));
        Check.dueState("full: next", () -> x.next(last));
        Check.dueState("full: join", () -> x.join(last, p, true));
        Check.dueState("full: join", () -> x.join(last, p, false));
        Check.due("full: parameter(1)", x.parameter(1), p);
        Check.due("full: next that is there", x.next(p), p + 1);
        Check.due("full: join that is there", x.join(p, last, true), 119);
        Check.dueOutOfBounds("full: parameter(5)", () -> x.parameter(5));
        Check.dueOutOfBounds("full: next(120)", () -> x.next(120));
        Check.dueOutOfBounds("full: join(0, 120, false)", () -> x.join(0, 120, false));
        Check.dueOutOfBounds("full: put(0, 5, 0)", () -> x.put(0, 5, 0));
        Check.dueArgument("full: 61 NEXTs", () -> x.next(deepest));
        Check.due("full: about(0)", x.about(0), 120);
        LevelRows y = new LevelRows();
        int z = y.zero();
        Make.fill(y, z, 120);
        Check.due("full: zero() that is there", y.zero(), z);
        Check.due("full: level(119, 0)", y.level(119, 0), 3);
        Check.due("full: level(120, 0)", y.level(120, 0), NONE);
    }
}
