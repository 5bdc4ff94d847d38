/** Promises 14 to 19 at their edges: a test for each sentence that names one. */
final class NeedEdgesTest {
    private static final int NONE = LevelRows.NONE;
    private static final int[] FAR_OFF = {-2, Check.LAST_INT, Check.FIRST_INT};

    private NeedEdgesTest() {
    }

    public static void main(String[] args) {
        unknownsAre10();
        needOfNoUnknown();
        needOfUnknownsAsTheyAreMade();
        needOfNoneIsTheNumber0();
        needHasKOf20AtMost();
        needsAre30();
        needIsMadeEachTime();
        needByTwoFaults();
        solvedWithoutNeeds();
        solvedByACircleOfNothing();
        solvedIfNumbersAre0AndAbove();
        solvedWithAllNeeds();
        solutionOfNoUnknown();
        solutionOfNeedsThatCanNotBeSolved();
        solutionIsTheLeast();
        solutionIs0AtLeast();
        solutionAtTheFarthest();
        clashOfNoNeed();
        clashOfSolvedNeeds();
        clashGoesFromTheLast();
        clashKeepsWhatIsWantedOnly();
        clashOf30();
        undoOfNoNeeds();
        undoOfTheLatest();
        undoAllOf30();
        undoTakesNoUnknown();
        Check.end();
    }

    /** Terms: "UNKNOWNS 0 .. 9"; 14: "there are 10". */
    private static void unknownsAre10() {
        LevelRows x = new LevelRows();
        for (int i = 0; i < 10; i++) {
            Check.due("14: unknown()", x.unknown(), i);
            Check.due("14: about(1)", x.about(1), i + 1);
        }
        Check.dueState("14: the 11th", x::unknown);
        Check.due("14: about(1) in the end", x.about(1), 10);
        Edge.allowed("14: the 10th", () -> Make.withUnknowns(9), LevelRows::unknown, 9);
        Edge.refused("14: the 11th", () -> Make.withUnknowns(10), LevelRows::unknown, Edge.STATE);
        Edge.refused("14: full", Make::full, LevelRows::unknown, Edge.STATE);
    }

    /** 15: "i or j is no unknown, nor NONE". */
    private static void needOfNoUnknown() {
        Edge.Making three = () -> Make.withUnknowns(3);
        for (int i = -1; i <= 2; i++) {
            for (int j = -1; j <= 2; j++) {
                int low = i;
                int high = j;
                Edge.allowed("15: need(" + i + ", 0, " + j + ")", three, x -> x.need(low, 0, high), 0);
            }
        }
        for (int wrong : new int[] {-2, 3, 9, 10, Check.LAST_INT, Check.FIRST_INT}) {
            for (int right = -1; right <= 2; right++) {
                int other = right;
                Edge.refused("15: need(" + wrong + ", 0, " + right + ")", three, x -> x.need(wrong, 0, other), Edge.BOUNDS);
                Edge.refused("15: need(" + right + ", 0, " + wrong + ")", three, x -> x.need(other, 0, wrong), Edge.BOUNDS);
            }
            Edge.refused("15: need(" + wrong + ", 0, the same)", three, x -> x.need(wrong, 0, wrong), Edge.BOUNDS);
        }
        Edge.Making ten = () -> Make.withUnknowns(10);
        Edge.allowed("15: need(9, 0, 0) of ten", ten, x -> x.need(9, 0, 0), 0);
        Edge.allowed("15: need(0, 0, 9) of ten", ten, x -> x.need(0, 0, 9), 0);
        Edge.refused("15: need(10, 0, 0) of ten", ten, x -> x.need(10, 0, 0), Edge.BOUNDS);
        Edge.refused("15: need(0, 0, 10) of ten", ten, x -> x.need(0, 0, 10), Edge.BOUNDS);
    }

    private static void needOfUnknownsAsTheyAreMade() {
        LevelRows x = new LevelRows();
        for (int i = 0; i < 10; i++) {
            int next = i;
            Check.dueOutOfBounds("15: ahead of unknown " + i, () -> x.need(next, 1, NONE));
            Check.dueOutOfBounds("15: ahead of unknown " + i, () -> x.need(NONE, 1, next));
            x.unknown();
            Check.due("15: behind unknown " + i, x.need(NONE, i, i), i);
        }
        for (int i = 0; i < 10; i++) {
            Check.due("15: unknown " + i, x.solution(i), i);
        }
    }

    /** Terms: "NONE is the number 0". */
    private static void needOfNoneIsTheNumber0() {
        LevelRows x = Make.withUnknowns(1);
        x.need(NONE, 4, 0);
        Check.due("15: 0 + 4 <= i", x.solution(0), 4);
        x.need(0, -4, NONE);
        Check.due("15: i - 4 <= 0", x.solution(0), 4);
        x.need(0, -3, NONE);
        Check.due("15: i - 3 <= 0", x.solution(0), NONE);
        Edge.allowed("15: 0 + 0 <= 0", LevelRows::new, y -> solvedWith(y, NONE, 0, NONE), 1);
        Edge.allowed("15: 0 - 1 <= 0", LevelRows::new, y -> solvedWith(y, NONE, -1, NONE), 1);
        Edge.allowed("15: 0 + 1 <= 0", LevelRows::new, y -> solvedWith(y, NONE, 1, NONE), 0);
    }

    private static long solvedWith(LevelRows x, int i, int k, int j) {
        x.need(i, k, j);
        return Edge.bit(x.isSolved());
    }

    /** Terms: "k -20 .. 20"; 15: "IllegalArgumentException: k". */
    private static void needHasKOf20AtMost() {
        int[][] sides = {{0, 1}, {1, 1}, {NONE, 0}, {0, NONE}, {NONE, NONE}};
        for (int[] side : sides) {
            int i = side[0];
            int j = side[1];
            String of = ", for " + i + " and " + j;
            for (int k = -20; k <= 20; k++) {
                int right = k;
                Edge.allowed("15: k of " + k + of, () -> Make.withUnknowns(2), x -> x.need(i, right, j), 0);
            }
            for (int k : new int[] {-21, 21, Check.LAST_INT, Check.FIRST_INT}) {
                Edge.refused("15: k of " + k + of, () -> Make.withUnknowns(2), x -> x.need(i, k, j), Edge.ARGUMENT);
            }
        }
        LevelRows x = Make.withUnknowns(2);
        x.need(NONE, 20, 0);
        x.need(0, -20, NONE);
        x.need(0, 20, 1);
        Check.due("15: 20 and no more", x.solution(0), 20);
        Check.due("15: 20 and 20", x.solution(1), 40);
    }

    /** Terms: "NEEDS, at most 30"; 15: "there are 30". */
    private static void needsAre30() {
        Edge.allowed("15: the 30th", () -> Make.withNeeds(1, 29), x -> x.need(0, 1, 0), 29);
        Edge.refused("15: the 31st", () -> Make.withNeeds(1, 30), x -> x.need(0, 1, 0), Edge.STATE);
        Edge.refused("15: the 31st, of NONE", () -> Make.withNeeds(1, 30), x -> x.need(NONE, 1, NONE), Edge.STATE);
        Edge.refused("15: the 31st, like another", () -> Make.withNeeds(1, 30), x -> x.need(0, -20, 0), Edge.STATE);
        LevelRows x = Make.withNeeds(1, 30);
        Check.dueState("15: the 31st", () -> x.need(0, 1, 0));
        x.undo();
        Check.due("15: the 30th again", x.need(0, 1, 0), 29);
        Check.dueState("15: the 31st again", () -> x.need(0, 1, 0));
        Check.due("15: the 30th counts", x.isSolved(), false);
    }

    /** 15: "A need: its number": unlike a level, one that is like another is a new one. */
    private static void needIsMadeEachTime() {
        LevelRows x = Make.withUnknowns(1);
        for (int n = 0; n < 30; n++) {
            Check.due("15: need " + n, x.need(NONE, 1, 0), n);
            Check.due("15: about(2)", x.about(2), n + 1);
        }
    }

    /** Not told by the document: where two are due, the one that the face names first is thrown. */
    private static void needByTwoFaults() {
        Edge.Making full = Make::full;
        Edge.refused("15: i and k", full, x -> x.need(10, 21, 0), Edge.BOUNDS);
        Edge.refused("15: j and k", full, x -> x.need(0, -21, -2), Edge.BOUNDS);
        Edge.refused("15: i and 30", full, x -> x.need(-2, 0, 0), Edge.BOUNDS);
        Edge.refused("15: k and 30", full, x -> x.need(0, 21, 0), Edge.ARGUMENT);
    }

    /** 16: no needs are solved. */
    private static void solvedWithoutNeeds() {
        Edge.allowed("16: empty", LevelRows::new, x -> Edge.bit(x.isSolved()), 1);
        Edge.allowed("16: unknowns alone", () -> Make.withUnknowns(10), x -> Edge.bit(x.isSolved()), 1);
        LevelRows x = Make.withUnknowns(1);
        x.need(0, 1, 0);
        x.undo();
        Check.due("16: no needs again", x.isSolved(), true);
    }

    /** Terms: "i + k <= j": a circle of 0 can be, a circle of 1 can't. */
    private static void solvedByACircleOfNothing() {
        for (int size = 1; size <= 10; size++) {
            for (int sum = -1; sum <= 1; sum++) {
                LevelRows x = Make.withUnknowns(10);
                for (int i = 0; i < size - 1; i++) {
                    x.need(i, i % 2 == 0 ? 2 : -2, i + 1);
                }
                x.need(size - 1, sum - (size % 2 == 0 ? 2 : 0), 0);
                Check.due("16: a circle of " + size + ", " + sum, x.isSolved(), sum <= 0);
            }
        }
    }

    /** Terms: "numbers 0 and above that are looked for". */
    private static void solvedIfNumbersAre0AndAbove() {
        Edge.Making one = () -> Make.withUnknowns(1);
        Edge.allowed("16: i + 0 <= 0", one, x -> solvedWith(x, 0, 0, NONE), 1);
        Edge.allowed("16: i + 1 <= 0", one, x -> solvedWith(x, 0, 1, NONE), 0);
        Edge.allowed("16: i - 1 <= 0", one, x -> solvedWith(x, 0, -1, NONE), 1);
        Edge.allowed("16: i + 20 <= 0", one, x -> solvedWith(x, 0, 20, NONE), 0);
        LevelRows x = Make.withUnknowns(2);
        x.need(0, 20, 1);
        x.need(1, -20, NONE);
        Check.due("16: i + 20 <= j <= 20", x.isSolved(), true);
        x.need(1, -19, NONE);
        Check.due("16: i + 20 <= j <= 19", x.isSolved(), false);
    }

    private static void solvedWithAllNeeds() {
        Edge.allowed("16: 30 needs", Make::full, x -> Edge.bit(x.isSolved()), 1);
        Edge.allowed("16: the 30th clashes", () -> Make.withNeeds(1, 29), x -> solvedWith(x, 0, 1, 0), 0);
        LevelRows x = Make.withUnknowns(1);
        x.need(0, 1, 0);
        for (int n = 1; n < 30; n++) {
            x.need(0, -20, 0);
        }
        Check.due("16: the first clashes", x.isSolved(), false);
    }

    /** 17: "NONE if .. there is none such". */
    private static void solutionOfNoUnknown() {
        for (int unknowns = 0; unknowns <= 10; unknowns++) {
            int size = unknowns;
            Edge.Making making = () -> Make.withUnknowns(size);
            for (int i = 0; i <= 11; i++) {
                int asked = i;
                Edge.allowed("17: solution(" + i + ") of " + size, making, x -> x.solution(asked), i < size ? 0 : NONE);
            }
            Edge.allowed("17: solution(-1) of " + size, making, x -> x.solution(-1), NONE);
            for (int i : FAR_OFF) {
                Edge.allowed("17: solution(" + i + ") of " + size, making, x -> x.solution(i), NONE);
            }
        }
    }

    /** 17: "NONE if the needs can't be solved": of each unknown, also of one that is in no need. */
    private static void solutionOfNeedsThatCanNotBeSolved() {
        LevelRows x = Make.withUnknowns(9);
        x.need(NONE, 5, 1);
        Check.due("17: ahead of it", x.solution(1), 5);
        x.need(0, 1, 0);
        for (int i = -1; i <= 10; i++) {
            Check.due("17: solution(" + i + ")", x.solution(i), NONE);
        }
        x.unknown();
        Check.due("17: a new unknown's", x.solution(9), NONE);
        x.undo();
        Check.due("17: after undo()", x.solution(1), 5);
        Check.due("17: the new unknown's after undo()", x.solution(9), 0);
    }

    /** Terms: "each unknown's LEAST number is the least that it has in any solution". */
    private static void solutionIsTheLeast() {
        LevelRows x = Make.withUnknowns(3);
        x.need(NONE, 7, 0);
        x.need(NONE, 9, 0);
        x.need(NONE, 8, 0);
        Check.due("17: the most of what it needs", x.solution(0), 9);
        x.need(0, -20, NONE);
        Check.due("17: not the most that it may have", x.solution(0), 9);
        x.need(0, -2, 1);
        x.need(0, -3, 2);
        x.need(2, 2, 1);
        Check.due("17: the higher one of two ways", x.solution(1), 8);
        Check.due("17: on the way", x.solution(2), 6);
    }

    /** Terms: "numbers 0 and above": a need may ask for less than 0. */
    private static void solutionIs0AtLeast() {
        LevelRows x = Make.withUnknowns(2);
        x.need(NONE, -20, 0);
        x.need(0, -1, 1);
        Check.due("17: -20 <= i", x.solution(0), 0);
        Check.due("17: i - 1 <= j", x.solution(1), 0);
        x.need(NONE, 1, 0);
        Check.due("17: 1 - 1 <= j", x.solution(1), 0);
        x.need(NONE, 2, 0);
        Check.due("17: 2 - 1 <= j", x.solution(1), 1);
    }

    /** The numbers go up to 200: 20 for each of ten, whatever the order of the needs is. */
    private static void solutionAtTheFarthest() {
        for (boolean turned : new boolean[] {false, true}) {
            LevelRows x = Make.withUnknowns(10);
            for (int n = 0; n < 10; n++) {
                int i = turned ? 9 - n : n;
                x.need(i - 1, 20, i);
            }
            for (int i = 0; i < 10; i++) {
                Check.due("17: unknown " + i + ", " + turned, x.solution(i), 20 * (i + 1));
            }
            for (int n = 0; n < 10; n++) {
                int i = turned ? 9 - n : n;
                x.need(i, -20, i - 1);
            }
            Check.due("17: and back, " + turned, x.solution(9), 200);
            x.need(5, -19, 4);
            Check.due("17: and back by 1 less, " + turned, x.solution(9), NONE);
        }
    }

    private static void dueClash(String what, LevelRows x, int... clash) {
        boolean[] due = new boolean[31];
        for (int c : clash) {
            due[c] = true;
        }
        for (int n = 0; n <= 30; n++) {
            Check.due("18: " + what + ", need " + n, x.isClash(n), due[n]);
        }
    }

    /** 18: a need that is none is in no clash. */
    private static void clashOfNoNeed() {
        LevelRows x = Make.withUnknowns(1);
        x.need(0, 1, 0);
        Check.due("18: isClash(0)", x.isClash(0), true);
        for (int n : new int[] {-1, 1, 29, 30, -2, Check.LAST_INT, Check.FIRST_INT}) {
            Check.due("18: isClash(" + n + ")", x.isClash(n), false);
        }
        x.need(0, 2, 0);
        x.undo();
        Check.due("18: one that is gone", x.isClash(1), false);
        x.undo();
        Check.due("18: the last one that is gone", x.isClash(0), false);
    }

    /** 18: "(of needs that can't be solved)". */
    private static void clashOfSolvedNeeds() {
        dueClash("empty", new LevelRows());
        dueClash("30 needs that ask nothing", Make.full());
        LevelRows x = Make.withUnknowns(2);
        x.need(0, 5, 1);
        x.need(1, -5, 0);
        dueClash("a circle of nothing", x);
        x.need(1, -4, 0);
        dueClash("a circle of 1", x, 0, 2);
        x.undo();
        dueClash("a circle of nothing again", x);
    }

    /** Terms: "gone through from the last one to the first": of what clashes alone the first is kept. */
    private static void clashGoesFromTheLast() {
        LevelRows x = Make.withUnknowns(1);
        x.need(0, 1, 0);
        x.need(0, 2, 0);
        x.need(NONE, 1, NONE);
        dueClash("three that clash alone", x, 0);
        LevelRows y = Make.withUnknowns(2);
        y.need(NONE, 1, 0);
        y.need(NONE, 1, 0);
        y.need(0, 0, NONE);
        y.need(0, 0, NONE);
        dueClash("two ways in and two out", y, 0, 2);
        LevelRows z = Make.withUnknowns(2);
        z.need(0, 3, 1);
        z.need(NONE, 2, 0);
        z.need(1, -4, NONE);
        z.need(1, -2, 0);
        z.need(NONE, 1, NONE);
        dueClash("the longer one is ahead", z, 0, 1, 2);
    }

    /** Terms: "each is left out if those that are kept so far and those ahead of it still can't be solved". */
    private static void clashKeepsWhatIsWantedOnly() {
        LevelRows x = Make.withUnknowns(4);
        x.need(NONE, 20, 3);
        x.need(0, 1, 1);
        x.need(3, -20, NONE);
        x.need(1, 1, 2);
        x.need(3, 0, 3);
        x.need(2, -1, 0);
        dueClash("three of six", x, 1, 3, 5);
        x.need(2, -2, 0);
        dueClash("another one behind them", x, 1, 3, 5);
        x.undo();
        x.undo();
        dueClash("without the last of the three", x);
    }

    private static void clashOf30() {
        LevelRows x = Make.withNeeds(1, 29);
        x.need(0, 1, 0);
        dueClash("the 30th", x, 29);
        LevelRows y = Make.withUnknowns(10);
        for (int i = 0; i < 9; i++) {
            y.need(i, 2, i + 1);
            y.need(i + 1, -20, i);
            y.need(i, 1, i + 1);
        }
        y.need(NONE, 0, NONE);
        y.need(9, -19, NONE);
        Check.due("18: 18 - 19 <= 0", y.isSolved(), true);
        y.need(NONE, 2, 0);
        dueClash("one way through 30", y, 0, 3, 6, 9, 12, 15, 18, 21, 24, 28, 29);
    }

    /** 19: "whether there was one". */
    private static void undoOfNoNeeds() {
        Edge.allowed("19: empty", LevelRows::new, x -> Edge.bit(x.undo()), 0);
        Edge.allowed("19: unknowns alone", () -> Make.withUnknowns(10), x -> Edge.bit(x.undo()), 0);
        LevelRows x = new LevelRows();
        x.undo();
        x.undo();
        Check.due("19: about(2)", x.about(2), 0);
        Check.due("19: the first need", x.need(NONE, 0, NONE), 0);
        Check.due("19: one need", x.undo(), true);
        Check.due("19: no more", x.undo(), false);
    }

    /** 19: "The latest need goes": and no other. */
    private static void undoOfTheLatest() {
        LevelRows x = Make.withUnknowns(1);
        x.need(NONE, 3, 0);
        x.need(NONE, 5, 0);
        x.need(NONE, 4, 0);
        Check.due("19: three needs", x.solution(0), 5);
        x.undo();
        Check.due("19: two needs", x.solution(0), 5);
        x.undo();
        Check.due("19: one need", x.solution(0), 3);
        Check.due("19: a need in its place", x.need(NONE, 4, 0), 1);
        Check.due("19: two needs again", x.solution(0), 4);
        x.undo();
        x.undo();
        Check.due("19: none", x.solution(0), 0);
    }

    private static void undoAllOf30() {
        LevelRows x = Make.withUnknowns(1);
        for (int n = 0; n < 30; n++) {
            x.need(NONE, n - 9, 0);
        }
        for (int n = 30; n > 0; n--) {
            Check.due("19: with " + n, x.solution(0), Math.max(0, n - 10));
            Check.due("19: undo() of " + n, x.undo(), true);
            Check.due("19: left of " + n, x.about(2), n - 1);
        }
        Check.due("19: undo() of none", x.undo(), false);
        Check.due("19: none is left", x.about(2), 0);
    }

    /** 19: an unknown or a level that was made later than the need stays. */
    private static void undoTakesNoUnknown() {
        LevelRows x = Make.withUnknowns(1);
        x.need(NONE, 1, 0);
        x.unknown();
        x.zero();
        Check.due("19: undo()", x.undo(), true);
        Check.due("19: unknowns", x.about(1), 2);
        Check.due("19: levels", x.about(0), 1);
        Check.due("19: needs", x.about(2), 0);
    }
}
