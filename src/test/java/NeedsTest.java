/** Promises 14 to 19: unknowns, needs, their least numbers and their clash. */
final class NeedsTest {
    private static final int NONE = LevelRows.NONE;

    private NeedsTest() {
    }

    public static void main(String[] args) {
        unknown();
        needNumbers();
        needWrong();
        solved();
        unsolvedByCircle();
        unsolvedByNought();
        longRow();
        clashOrder();
        clashOfSeveral();
        undo();
        lateUnknown();
        Check.end();
    }

    private static void dueClash(String what, LevelRows x, int... clash) {
        for (int need = -2; need < 34; need++) {
            boolean due = false;
            for (int c : clash) {
                due |= c == need;
            }
            Check.due(what + ": isClash(" + need + ")", x.isClash(need), due);
        }
        Check.due(what + ": isClash(most)", x.isClash(Check.LAST_INT), false);
        Check.due(what + ": isClash(least)", x.isClash(Check.FIRST_INT), false);
        Check.due(what + ": isSolved()", x.isSolved(), clash.length == 0);
    }

    private static void dueNumbers(String what, LevelRows x, int... numbers) {
        for (int i = 0; i < numbers.length; i++) {
            Check.due(what + ": solution(" + i + ")", x.solution(i), numbers[i]);
        }
        for (int i : new int[] {-2, -1, numbers.length, 10, 11, Check.LAST_INT, Check.FIRST_INT}) {
            Check.due(what + ": solution(" + i + ")", x.solution(i), NONE);
        }
    }

    private static void unknown() {
        LevelRows x = new LevelRows();
        for (int i = 0; i < 10; i++) {
            Check.due("solution ahead of unknown " + i, x.solution(i), NONE);
            Check.due("unknown()", x.unknown(), i);
            Check.due("solution behind unknown " + i, x.solution(i), 0);
        }
        Check.dueState("an 11th unknown", x::unknown);
        Check.dueState("an 11th unknown again", x::unknown);
        Check.due("about(1)", x.about(1), 10);
        Check.due("solution(10)", x.solution(10), NONE);
    }

    private static void needNumbers() {
        LevelRows x = Make.withUnknowns(2);
        Check.due("need(0, 20, 1)", x.need(0, 20, 1), 0);
        Check.due("need(0, -20, 1)", x.need(0, -20, 1), 1);
        Check.due("need(NONE, 0, 1)", x.need(NONE, 0, 1), 2);
        Check.due("need(NONE, -1, NONE)", x.need(NONE, -1, NONE), 3);
        for (int n = 4; n < 30; n++) {
            Check.due("the same need", x.need(0, 20, 1), n);
        }
        Check.dueState("a 31st need", () -> x.need(0, 20, 1));
        Check.due("about(2)", x.about(2), 30);
        Check.dueOutOfBounds("31st, i", () -> x.need(2, 0, 0));
        Check.dueArgument("31st, k", () -> x.need(0, 21, 0));
        dueNumbers("30 needs", x, 0, 20);
        Check.due("undo()", x.undo(), true);
        Check.due("the 30th again", x.need(1, 1, 1), 29);
        dueClash("the 30th", x, 29);
    }

    private static void needWrong() {
        LevelRows x = Make.withUnknowns(3);
        for (int i : new int[] {-2, 3, 9, 10, Check.LAST_INT, Check.FIRST_INT}) {
            Check.dueOutOfBounds("need(" + i + ", 0, 0)", () -> x.need(i, 0, 0));
            Check.dueOutOfBounds("need(0, 0, " + i + ")", () -> x.need(0, 0, i));
            Check.dueOutOfBounds("need(" + i + ", 0, NONE)", () -> x.need(i, 0, NONE));
            Check.dueOutOfBounds("need(" + i + ", 21, 0)", () -> x.need(i, 21, 0));
        }
        for (int k : new int[] {-21, 21, Check.LAST_INT, Check.FIRST_INT}) {
            Check.dueArgument("need(0, " + k + ", 1)", () -> x.need(0, k, 1));
            Check.dueArgument("need(NONE, " + k + ", NONE)", () -> x.need(NONE, k, NONE));
        }
        Check.due("about(2)", x.about(2), 0);
        dueNumbers("wrong needs", x, 0, 0, 0);
    }

    private static void solved() {
        LevelRows x = Make.withUnknowns(4);
        dueNumbers("no needs", x, 0, 0, 0, 0);
        dueClash("no needs", x);
        x.need(0, 3, 1);
        dueNumbers("0 + 3 <= 1", x, 0, 3, 0, 0);
        x.need(1, -5, 2);
        dueNumbers("1 - 5 <= 2", x, 0, 3, 0, 0);
        x.need(NONE, 4, 0);
        dueNumbers("4 <= 0", x, 4, 7, 2, 0);
        x.need(2, 0, 3);
        x.need(3, 0, 2);
        dueNumbers("2 = 3", x, 4, 7, 2, 2);
        x.need(1, -7, NONE);
        dueNumbers("1 <= 7", x, 4, 7, 2, 2);
        x.need(NONE, 0, NONE);
        x.need(NONE, -20, NONE);
        x.need(3, -1, 3);
        x.need(3, 0, 3);
        dueNumbers("needs that ask nothing", x, 4, 7, 2, 2);
        x.need(1, -4, 0);
        dueNumbers("a circle of less than nothing", x, 4, 7, 2, 2);
        dueClash("a circle of less than nothing", x);
    }

    private static void unsolvedByCircle() {
        LevelRows x = Make.withUnknowns(3);
        x.need(0, 5, 1);
        x.need(1, -2, 2);
        x.need(2, -3, 0);
        dueNumbers("a circle of nothing", x, 0, 5, 3);
        x.need(2, -2, 0);
        dueNumbers("a circle of 1", x, NONE, NONE, NONE);
        dueClash("a circle of 1", x, 0, 1, 3);
        LevelRows y = Make.withUnknowns(1);
        y.need(0, 1, 0);
        dueNumbers("more than itself", y, NONE);
        dueClash("more than itself", y, 0);
    }

    private static void unsolvedByNought() {
        LevelRows x = Make.withUnknowns(2);
        x.need(0, 20, NONE);
        dueClash("0 + 20 <= nothing", x, 0);
        x.undo();
        x.need(0, 0, NONE);
        dueNumbers("0 <= nothing", x, 0, 0);
        x.need(1, 1, 0);
        dueNumbers("1 + 1 <= 0", x, NONE, NONE);
        dueClash("1 + 1 <= 0", x, 0, 1);
        LevelRows y = new LevelRows();
        y.need(NONE, 0, NONE);
        Check.due("0 <= 0", y.isSolved(), true);
        y.need(NONE, 1, NONE);
        Check.due("1 <= 0", y.isSolved(), false);
        dueClash("1 <= 0", y, 1);
    }

    /** The needs stand in the slowest order: each round carries one number on. */
    private static void longRow() {
        LevelRows x = Make.withUnknowns(10);
        for (int i = 8; i >= 0; i--) {
            x.need(i, 20, i + 1);
        }
        x.need(NONE, 20, 0);
        dueNumbers("ten in a row", x, 20, 40, 60, 80, 100, 120, 140, 160, 180, 200);
        x.need(9, -20, 8);
        Check.due("and back by as much", x.solution(9), 200);
        for (int i = 8; i > 0; i--) {
            x.need(i, -20, i - 1);
        }
        Check.due("and back to the first", x.solution(9), 200);
        x.need(0, -20, NONE);
        Check.due("and back to nothing", x.solution(9), 200);
        x.need(9, -20, 8);
        x.need(0, -19, NONE);
        dueClash("and back by one more", x, 9, 21);
        LevelRows y = Make.withUnknowns(10);
        for (int i = 8; i >= 0; i--) {
            y.need(i, -1, i + 1);
        }
        y.need(9, 9, 0);
        dueNumbers("a slow circle of nothing", y, 9, 8, 7, 6, 5, 4, 3, 2, 1, 0);
        y.need(9, 10, 0);
        dueClash("a slow circle of 1", y, 0, 1, 2, 3, 4, 5, 6, 7, 8, 10);
    }

    private static void clashOrder() {
        LevelRows x = Make.withUnknowns(1);
        x.need(0, 2, 0);
        x.need(0, 1, 0);
        x.need(0, 2, 0);
        dueClash("three that clash alone: the first is kept", x, 0);
        LevelRows y = Make.withUnknowns(2);
        y.need(NONE, 3, 0);
        y.need(0, 0, 1);
        y.need(1, -2, NONE);
        y.need(NONE, 5, 1);
        y.need(0, 0, NONE);
        dueClash("the last ones go first", y, 0, 1, 2);
    }

    private static void clashOfSeveral() {
        LevelRows x = Make.withUnknowns(3);
        x.need(2, -20, NONE);
        x.need(0, 4, 1);
        x.need(1, 0, 2);
        x.need(2, -3, 0);
        x.need(NONE, 20, 0);
        dueClash("a circle ahead of a row to nothing", x, 1, 2, 3);
        LevelRows y = Make.withUnknowns(3);
        y.need(NONE, 20, 0);
        y.need(0, 4, 1);
        y.need(1, 0, 2);
        y.need(2, -20, NONE);
        y.need(2, -3, 0);
        dueClash("a row to nothing ahead of a circle", y, 0, 1, 2, 3);
    }

    private static void undo() {
        LevelRows x = Make.withUnknowns(2);
        Check.due("undo() of nothing", x.undo(), false);
        x.need(NONE, 5, 0);
        x.need(0, 1, 1);
        x.need(1, 0, 0);
        dueClash("ahead of undo()", x, 1, 2);
        Check.due("undo()", x.undo(), true);
        dueNumbers("after undo()", x, 5, 6);
        dueClash("after undo()", x);
        Check.due("undo() again", x.undo(), true);
        dueNumbers("after two", x, 5, 0);
        Check.due("undo() the last", x.undo(), true);
        dueNumbers("after all", x, 0, 0);
        Check.due("undo() of nothing again", x.undo(), false);
        Check.due("about(1)", x.about(1), 2);
        Check.due("about(2)", x.about(2), 0);
        Check.due("a new need's number", x.need(1, 1, 0), 0);
        dueNumbers("after a new need", x, 1, 0);
    }

    private static void lateUnknown() {
        LevelRows x = Make.withUnknowns(1);
        x.need(NONE, 2, 0);
        dueNumbers("one unknown", x, 2);
        x.unknown();
        dueNumbers("one more", x, 2, 0);
        x.need(0, 2, 1);
        dueNumbers("with a need", x, 2, 4);
        x.need(1, 0, NONE);
        dueClash("that clash", x, 1, 2);
        x.unknown();
        dueNumbers("no numbers for a new one", x, NONE, NONE, NONE);
        dueClash("that still clash", x, 1, 2);
    }
}
