/** Promises 1 to 7 and 20 at their edges: a test for each sentence that names one. */
final class LevelEdgesTest {
    private static final int NONE = LevelRows.NONE;

    private LevelEdgesTest() {
    }

    public static void main(String[] args) {
        newHasNoLevels();
        newHasNoUnknowns();
        newHasNoNeeds();
        newSharesNothing();
        zeroIsMadeOnce();
        zeroWith120Levels();
        parametersAre0To4();
        parameterIsMadeOnce();
        parameterWith120Levels();
        nextOfNoLevel();
        nextIsMadeOnce();
        nextOf60And61();
        nextCountsTheDeepestRowOnly();
        nextCountsThroughAllLevels();
        nextWith120Levels();
        joinOfNoLevel();
        joinIsMadeOnce();
        joinWith120Levels();
        levelOfNoLevel();
        levelOfAnotherWhat();
        levelOfWhatItHasNot();
        putOfNoLevelOrParameter();
        putWhereverItStands();
        putMakesNotWhatStays();
        putMakesFromWithin();
        putMakesTheFirstOneFirst();
        putOf60And61Nexts();
        putOf61NextsKeepsWhatWasMade();
        putInto120Levels();
        putBehind120LevelsKeepsWhatWasMade();
        putWith120LevelsMakesNone();
        aboutEmptyAndFull();
        aboutAnotherWhat();
        aboutAfterRefusedCalls();
        the512thCall();
        Check.end();
    }

    /** 1: "No levels". */
    private static void newHasNoLevels() {
        Edge.allowed("1: about(0)", LevelRows::new, x -> x.about(0), 0);
        Edge.allowed("1: level(0, 0)", LevelRows::new, x -> x.level(0, 0), NONE);
        Edge.allowed("1: value(0, 0)", LevelRows::new, x -> x.value(0, 0), NONE);
        Edge.refused("1: next(0)", LevelRows::new, x -> x.next(0), Edge.BOUNDS);
        Edge.refused("1: join(0, 0, false)", LevelRows::new, x -> x.join(0, 0, false), Edge.BOUNDS);
        Edge.refused("1: join(0, 0, true)", LevelRows::new, x -> x.join(0, 0, true), Edge.BOUNDS);
        Edge.refused("1: put(0, 0, 0)", LevelRows::new, x -> x.put(0, 0, 0), Edge.BOUNDS);
        Edge.refused("1: part(0, 0, NONE)", LevelRows::new, x -> x.part(0, 0, NONE), Edge.BOUNDS);
        Edge.refused("1: isAtMost(0, 0)", LevelRows::new, x -> Edge.bit(x.isAtMost(0, 0)), Edge.BOUNDS);
        Edge.refused("1: isSame(0, 0)", LevelRows::new, x -> Edge.bit(x.isSame(0, 0)), Edge.BOUNDS);
        Edge.refused("1: least(0)", LevelRows::new, x -> x.least(0), Edge.BOUNDS);
        Edge.refused("1: above(0, 0)", LevelRows::new, x -> x.above(0, 0), Edge.BOUNDS);
        Edge.allowed("1: the first level's number", LevelRows::new, x -> x.parameter(2), 0);
    }

    /** 1: "no unknowns". */
    private static void newHasNoUnknowns() {
        Edge.allowed("1: about(1)", LevelRows::new, x -> x.about(1), 0);
        Edge.allowed("1: solution(0)", LevelRows::new, x -> x.solution(0), NONE);
        Edge.refused("1: need(0, 0, NONE)", LevelRows::new, x -> x.need(0, 0, NONE), Edge.BOUNDS);
        Edge.refused("1: need(NONE, 0, 0)", LevelRows::new, x -> x.need(NONE, 0, 0), Edge.BOUNDS);
        Edge.allowed("1: the first unknown's number", LevelRows::new, LevelRows::unknown, 0);
    }

    /** 1: "no needs". */
    private static void newHasNoNeeds() {
        Edge.allowed("1: about(2)", LevelRows::new, x -> x.about(2), 0);
        Edge.allowed("1: isSolved()", LevelRows::new, x -> Edge.bit(x.isSolved()), 1);
        Edge.allowed("1: isClash(0)", LevelRows::new, x -> Edge.bit(x.isClash(0)), 0);
        Edge.allowed("1: undo()", LevelRows::new, x -> Edge.bit(x.undo()), 0);
        Edge.allowed("1: the first need's number", LevelRows::new, x -> x.need(NONE, 0, NONE), 0);
    }

    private static void newSharesNothing() {
        LevelRows full = Make.full();
        LevelRows x = new LevelRows();
        for (int what = 0; what < 3; what++) {
            Check.due("1: about(" + what + ") beside a full one", x.about(what), 0);
        }
        x.zero();
        Check.due("1: the full one's level 0", full.level(0, 0), 1);
    }

    /** Terms: "the same of the same is the same level: it is made once". */
    private static void zeroIsMadeOnce() {
        LevelRows x = Make.withLevels(3);
        Check.due("2: zero()", x.zero(), 3);
        Check.due("2: zero() again", x.zero(), 3);
        x.next(3);
        Check.due("2: zero() behind others", x.zero(), 3);
        Check.due("2: about(0)", x.about(0), 5);
    }

    /** 2: "there are 120 levels, and it is none of them". */
    private static void zeroWith120Levels() {
        dueAs120th("2: zero()", LevelRows::zero);
    }

    /** A call that makes one level where there are 119 or 120 of the kind that withLevels() makes. */
    private static void dueAs120th(String call, Edge.Asking asking) {
        LevelRows x = Make.withLevels(119);
        Check.due(call + ", the 120th", asking.answer(x), 119);
        Check.due(call + ", one of the 120", asking.answer(x), 119);
        Check.due(call + ", about(0)", x.about(0), 120);
        Edge.refused(call + ", the 121st", () -> Make.withLevels(120), asking, Edge.STATE);
    }

    /** Terms: "a PARAMETER 0 .. 4"; 3: "there is none such". */
    private static void parametersAre0To4() {
        for (int p = 0; p <= 4; p++) {
            int parameter = p;
            Edge.allowed("3: parameter(" + p + ")", LevelRows::new, x -> x.parameter(parameter), 0);
        }
        for (int p : new int[] {-1, 5, Check.LAST_INT, Check.FIRST_INT}) {
            Edge.refused("3: parameter(" + p + ")", LevelRows::new, x -> x.parameter(p), Edge.BOUNDS);
            Edge.refused("3: full, parameter(" + p + ")", Make::full, x -> x.parameter(p), Edge.BOUNDS);
        }
    }

    private static void parameterIsMadeOnce() {
        LevelRows x = new LevelRows();
        for (int time = 0; time < 2; time++) {
            Check.due("3: parameter(4), time " + time, x.parameter(4), 0);
            Check.due("3: parameter(0), time " + time, x.parameter(0), 1);
            Check.due("3: parameter(3), time " + time, x.parameter(3), 2);
        }
        Check.due("3: about(0)", x.about(0), 3);
    }

    /** 3: IllegalStateException, likewise as for zero(). */
    private static void parameterWith120Levels() {
        dueAs120th("3: parameter(1)", x -> x.parameter(1));
        dueAs120th("3: parameter(4)", x -> x.parameter(4));
        Edge.allowed("3: one of the 120", Make::full, x -> x.parameter(0), 0);
    }

    /** 4: "there is no such level". */
    private static void nextOfNoLevel() {
        Edge.allowed("4: next(0) of three", () -> Make.withLevels(3), x -> x.next(0), 3);
        Edge.allowed("4: next(2) of three", () -> Make.withLevels(3), x -> x.next(2), 3);
        for (int a : new int[] {-1, 3, 119, 120, Check.LAST_INT, Check.FIRST_INT}) {
            Edge.refused("4: next(" + a + ") of three", () -> Make.withLevels(3), x -> x.next(a), Edge.BOUNDS);
        }
        for (int a : new int[] {-1, 120, 121}) {
            Edge.refused("4: full, next(" + a + ")", Make::full, x -> x.next(a), Edge.BOUNDS);
        }
    }

    private static void nextIsMadeOnce() {
        LevelRows x = Make.withLevels(2);
        Check.due("4: next(1)", x.next(1), 2);
        Check.due("4: next(0)", x.next(0), 3);
        Check.due("4: next(1) again", x.next(1), 2);
        Check.due("4: next(2)", x.next(2), 4);
        Check.due("4: about(0)", x.about(0), 5);
    }

    private static LevelRows withNexts(int nexts) {
        LevelRows x = Make.withLevels(1);
        Make.nexts(x, 0, nexts);
        return x;
    }

    /** 4: "it would have more than 60 NEXTs in one another". */
    private static void nextOf60And61() {
        Edge.allowed("4: the 60th NEXT", () -> withNexts(59), x -> x.next(59), 60);
        Edge.allowed("4: the 60th NEXT again", () -> withNexts(60), x -> x.next(59), 60);
        Edge.refused("4: the 61st NEXT", () -> withNexts(60), x -> x.next(60), Edge.ARGUMENT);
        Edge.allowed("4: a first NEXT beside 60", () -> withNexts(60), x -> x.next(x.zero()), 62);
    }

    /** 4: "the deepest row of them counts": not how many there are in all. */
    private static void nextCountsTheDeepestRowOnly() {
        LevelRows x = new LevelRows();
        int p = Make.nexts(x, x.parameter(0), 50);
        int q = Make.nexts(x, x.zero(), 49);
        int both = x.join(q, p, false);
        int last = Make.nexts(x, both, 10);
        Check.due("4: NEXTs of 50 and 49, and 10", x.value(last, 5), 65);
        Check.dueArgument("4: NEXTs of 50 and 49, and 11", () -> x.next(last));
        Check.due("4: levels there", x.about(0), 112);
    }

    /** 4: "through all levels": either side of GREATER and UNLESS, even one that always vanishes. */
    private static void nextCountsThroughAllLevels() {
        for (int way = 0; way < 8; way++) {
            boolean unless = (way & 1) != 0;
            boolean left = (way & 2) != 0;
            boolean twice = (way & 4) != 0;
            Edge.Making making = () -> {
                LevelRows x = new LevelRows();
                int z = x.zero();
                int deep = Make.nexts(x, x.parameter(0), 59);
                int joined = left ? x.join(deep, z, unless) : x.join(z, deep, unless);
                if (twice) {
                    joined = left ? x.join(joined, z, unless) : x.join(z, joined, unless);
                }
                x.next(joined);
                return x;
            };
            int last = twice ? 63 : 62;
            Edge.allowed("4: 60 NEXTs, way " + way, making, x -> x.level(last + 1, 0), NONE);
            Edge.allowed("4: 60 NEXTs, the last, way " + way, making, x -> x.level(last, 0), 2);
            Edge.refused("4: 61 NEXTs, way " + way, making, x -> x.next(last), Edge.ARGUMENT);
            Edge.allowed("4: a join of these, way " + way, making, x -> x.join(last, last, unless), last + 1);
        }
    }

    /** 4: IllegalStateException, likewise as for zero(). */
    private static void nextWith120Levels() {
        dueAs120th("4: next(0)", x -> x.next(0));
        dueAs120th("4: next(118)", x -> x.next(118));
    }

    /** 5: "one of them is none". */
    private static void joinOfNoLevel() {
        for (boolean unless : new boolean[] {false, true}) {
            String kind = unless ? ", true)" : ", false)";
            Edge.allowed("5: join(2, 0" + kind, () -> Make.withLevels(3), x -> x.join(2, 0, unless), 3);
            Edge.allowed("5: join(0, 2" + kind, () -> Make.withLevels(3), x -> x.join(0, 2, unless), 3);
            Edge.allowed("5: join(2, 2" + kind, () -> Make.withLevels(3), x -> x.join(2, 2, unless), 3);
            for (int a : new int[] {-1, 3, 120, Check.LAST_INT, Check.FIRST_INT}) {
                Edge.Making three = () -> Make.withLevels(3);
                Edge.refused("5: join(" + a + ", 0" + kind, three, x -> x.join(a, 0, unless), Edge.BOUNDS);
                Edge.refused("5: join(2, " + a + kind, three, x -> x.join(2, a, unless), Edge.BOUNDS);
                Edge.refused("5: join(" + a + ", " + a + kind, three, x -> x.join(a, a, unless), Edge.BOUNDS);
            }
            Edge.refused("5: full, join(120, 0" + kind, Make::full, x -> x.join(120, 0, unless), Edge.BOUNDS);
            Edge.refused("5: full, join(0, 120" + kind, Make::full, x -> x.join(0, 120, unless), Edge.BOUNDS);
        }
    }

    private static void joinIsMadeOnce() {
        LevelRows x = new LevelRows();
        x.zero();
        x.parameter(0);
        for (int time = 0; time < 2; time++) {
            Check.due("5: GREATER 0 1, time " + time, x.join(0, 1, false), 2);
            Check.due("5: UNLESS 0 1, time " + time, x.join(0, 1, true), 3);
            Check.due("5: GREATER 1 0, time " + time, x.join(1, 0, false), 4);
            Check.due("5: UNLESS 1 0, time " + time, x.join(1, 0, true), 5);
            Check.due("5: GREATER 0 0, time " + time, x.join(0, 0, false), 6);
            Check.due("5: UNLESS 0 0, time " + time, x.join(0, 0, true), 7);
        }
        Check.due("5: about(0)", x.about(0), 8);
    }

    /** 5: IllegalStateException, likewise as for zero(). */
    private static void joinWith120Levels() {
        dueAs120th("5: GREATER 118 0", x -> x.join(118, 0, false));
        dueAs120th("5: UNLESS 0 118", x -> x.join(0, 118, true));
        dueAs120th("5: UNLESS 118 118", x -> x.join(118, 118, true));
        Edge.allowed("5: one of the 120", Make::full, x -> x.join(118, 118, false), 119);
    }

    /** 6: "NONE .. if there is no such level". */
    private static void levelOfNoLevel() {
        for (int what = 0; what <= 2; what++) {
            for (int a : new int[] {-1, 3, 119, 120, Check.LAST_INT, Check.FIRST_INT}) {
                int asked = what;
                Edge.allowed("6: level(" + a + ", " + what + ") of three", () -> Make.withLevels(3),
                        x -> x.level(a, asked), NONE);
            }
        }
        Edge.allowed("6: level(2, 0) of three", () -> Make.withLevels(3), x -> x.level(2, 0), 3);
        Edge.allowed("6: level(119, 2) of 120", Make::full, x -> x.level(119, 2), 118);
        Edge.allowed("6: level(120, 2) of 120", Make::full, x -> x.level(120, 2), NONE);
        Edge.allowed("6: level(-1, 0) of 120", Make::full, x -> x.level(-1, 0), NONE);
    }

    private static LevelRows withEachKind() {
        LevelRows x = new LevelRows();
        x.zero();
        x.parameter(4);
        x.next(1);
        x.join(2, 0, false);
        x.join(1, 3, true);
        return x;
    }

    /** 6: "NONE for another what". */
    private static void levelOfAnotherWhat() {
        for (int a = 0; a < 5; a++) {
            int kind = a;
            Edge.allowed("6: level(" + a + ", 0)", LevelEdgesTest::withEachKind, x -> x.level(kind, 0), kind);
            for (int what : new int[] {-1, 3, Check.LAST_INT, Check.FIRST_INT}) {
                Edge.allowed("6: level(" + a + ", " + what + ")", LevelEdgesTest::withEachKind,
                        x -> x.level(kind, what), NONE);
            }
        }
    }

    /** 6: "NONE for .. what it has not": ZERO has neither part, PARAMETER and NEXT have no second. */
    private static void levelOfWhatItHasNot() {
        int[][] due = {{NONE, NONE}, {4, NONE}, {1, NONE}, {2, 0}, {1, 3}};
        LevelRows x = withEachKind();
        for (int a = 0; a < 5; a++) {
            Check.due("6: level(" + a + ", 1)", x.level(a, 1), due[a][0]);
            Check.due("6: level(" + a + ", 2)", x.level(a, 2), due[a][1]);
        }
        Edge.allowed("6: parameter 0's", () -> Make.withLevels(1), y -> y.level(0, 1), 0);
    }

    /** 7: "a level or parameter is none", even where the parameter does not stand in the level. */
    private static void putOfNoLevelOrParameter() {
        Edge.Making each = LevelEdgesTest::withEachKind;
        for (int a : new int[] {-1, 5, 120, Check.LAST_INT, Check.FIRST_INT}) {
            Edge.refused("7: put(" + a + ", 4, 0)", each, x -> x.put(a, 4, 0), Edge.BOUNDS);
            Edge.refused("7: put(4, 4, " + a + ")", each, x -> x.put(4, 4, a), Edge.BOUNDS);
            Edge.refused("7: put(0, 4, " + a + ")", each, x -> x.put(0, 4, a), Edge.BOUNDS);
            Edge.refused("7: put(1, 4, " + a + ")", each, x -> x.put(1, 4, a), Edge.BOUNDS);
        }
        for (int p : new int[] {-1, 5, 32, Check.LAST_INT, Check.FIRST_INT}) {
            Edge.refused("7: put(4, " + p + ", 0)", each, x -> x.put(4, p, 0), Edge.BOUNDS);
            Edge.refused("7: put(0, " + p + ", 0)", each, x -> x.put(0, p, 0), Edge.BOUNDS);
        }
        Edge.refused("7: full, put(120, 0, 0)", Make::full, x -> x.put(120, 0, 0), Edge.BOUNDS);
        Edge.refused("7: full, put(0, 0, 120)", Make::full, x -> x.put(0, 0, 120), Edge.BOUNDS);
        Edge.refused("7: full, put(0, 5, 0)", Make::full, x -> x.put(0, 5, 0), Edge.BOUNDS);
        for (int p = 0; p <= 3; p++) {
            int parameter = p;
            Edge.allowed("7: put(4, " + p + ", 0)", each, x -> x.put(4, parameter, 0), 4);
        }
        Edge.allowed("7: put(1, 4, 4)", each, x -> x.put(1, 4, 4), 4);
        Edge.allowed("7: put(0, 4, 4)", each, x -> x.put(0, 4, 4), 0);
    }

    /** 7: "wherever that stands in it": in NEXT, both sides of GREATER and UNLESS, and deep in these. */
    private static void putWhereverItStands() {
        LevelRows x = new LevelRows();
        int p = x.parameter(0);
        int q = x.parameter(4);
        int g = x.join(p, x.next(p), false);
        int u = x.join(x.next(g), p, true);
        int made = x.put(u, 0, q);
        Check.due("7: kind of it", x.level(made, 0), 4);
        Check.due("7: its second", x.level(made, 2), q);
        int next = x.level(made, 1);
        Check.due("7: its first", x.level(next, 0), 2);
        int greater = x.level(next, 1);
        Check.due("7: that one's", x.level(greater, 0), 3);
        Check.due("7: its first place", x.level(greater, 1), q);
        Check.due("7: its second place", x.level(x.level(greater, 2), 1), q);
        Check.due("7: value of it", x.value(made, Make.at(9, 0, 0, 0, 3)), 5);
        Check.due("7: put back", x.put(made, 4, p), u);
    }

    /** 7: "what stays as it is is not made". */
    private static void putMakesNotWhatStays() {
        LevelRows x = new LevelRows();
        int p = x.parameter(0);
        int q = x.parameter(1);
        int stays = x.next(q);
        int u = x.join(stays, p, true);
        int g = x.join(u, stays, false);
        Check.due("7: a parameter for itself", x.put(g, 0, p), g);
        Check.due("7: a parameter that is not there", x.put(g, 2, p), g);
        Check.due("7: none is made", x.about(0), 5);
        Check.due("7: in UNLESS and GREATER", x.put(g, 0, q), 6);
        Check.due("7: two are made", x.about(0), 7);
        Check.due("7: UNLESS's first stays", x.level(5, 1), stays);
        Check.due("7: GREATER's second stays", x.level(6, 2), stays);
        Check.due("7: what is put in stays", x.put(u, 0, u), 7);
        Check.due("7: its second is what was put", x.level(7, 2), u);
        Check.due("7: one is made", x.about(0), 8);
    }

    /** 7: "Its parts are made from within". */
    private static void putMakesFromWithin() {
        LevelRows x = new LevelRows();
        int top = x.next(x.join(x.next(x.parameter(0)), x.zero(), true));
        int q = x.parameter(1);
        int size = x.about(0);
        Check.due("7: the outermost is the last", x.put(top, 0, q), size + 2);
        Check.due("7: the innermost is the first", x.level(size, 1), q);
        Check.due("7: the next one", x.level(size + 1, 1), size);
        Check.due("7: the outermost", x.level(size + 2, 1), size + 1);
    }

    /** 7: "of two the first one first": also where the second one has the lower number. */
    private static void putMakesTheFirstOneFirst() {
        for (boolean unless : new boolean[] {false, true}) {
            for (boolean turned : new boolean[] {false, true}) {
                LevelRows x = new LevelRows();
                int p = x.parameter(0);
                int next = x.next(p);
                int greater = x.join(p, p, false);
                int pair = turned ? x.join(greater, next, unless) : x.join(next, greater, unless);
                int z = x.zero();
                String way = ", " + unless + ", " + turned;
                Check.due("7: a pair" + way, x.put(pair, 0, z), 7);
                Check.due("7: its first" + way, x.level(5, 0), turned ? 3 : 2);
                Check.due("7: its second" + way, x.level(6, 0), turned ? 2 : 3);
                Check.due("7: the pair's first" + way, x.level(7, 1), 5);
                Check.due("7: the pair's second" + way, x.level(7, 2), 6);
            }
        }
    }

    /** Level 30 is 30 NEXTs of parameter 0, level 61 is 30 NEXTs of parameter 1, and level 62 one more. */
    private static LevelRows withTwoRows() {
        LevelRows x = withNexts(30);
        Make.nexts(x, x.parameter(1), 31);
        return x;
    }

    /** 7: "IllegalArgumentException as for next()". */
    private static void putOf60And61Nexts() {
        Edge.Making rows = LevelEdgesTest::withTwoRows;
        Edge.allowed("7: 30 NEXTs under 30", rows, x -> x.put(30, 0, 61), 91);
        Edge.allowed("7: 31 NEXTs under 29", rows, x -> x.put(29, 0, 62), 91);
        Edge.allowed("7: 31 NEXTs for the parameter", rows, x -> x.put(0, 0, 62), 62);
        Edge.allowed("7: 30 NEXTs under 30, the other way", rows, x -> x.put(61, 1, 30), 92);
        LevelRows x = withTwoRows();
        Check.dueArgument("7: 31 NEXTs under 30", () -> x.put(30, 0, 62));
        LevelRows y = withTwoRows();
        int deepest = Make.nexts(y, 62, 29);
        int size = y.about(0);
        Check.dueArgument("7: 60 NEXTs under 1", () -> y.put(1, 0, deepest));
        Check.due("7: where the first is refused none is made", y.about(0), size);
        Check.due("7: 60 NEXTs in GREATER", y.put(y.join(0, 0, false), 0, deepest), size + 1);
    }

    /** 7: "(what was made ahead stays)". */
    private static void putOf61NextsKeepsWhatWasMade() {
        LevelRows x = withTwoRows();
        Check.dueArgument("7: 31 NEXTs under 30", () -> x.put(30, 0, 62));
        Check.due("7: 29 NEXTs stay", x.about(0), 92);
        Check.due("7: the first of them", x.level(63, 1), 62);
        Check.due("7: the last of them", x.level(91, 1), 90);
        Check.due("7: their value", x.value(91, Make.at(0, 7)), 67);
        Check.due("7: the deepest put that is allowed", x.put(29, 0, 62), 91);
        Check.dueArgument("7: refused again", () -> x.put(30, 0, 62));
        Check.due("7: it makes no more", x.about(0), 92);

        LevelRows y = withTwoRows();
        int side = y.join(0, 1, true);
        int top = y.join(side, y.join(30, side, false), false);
        int size = y.about(0);
        Check.dueArgument("7: a side that fits, then one that does not", () -> y.put(top, 0, 62));
        Check.due("7: the side and 29 NEXTs stay", y.about(0), size + 30);
        Check.due("7: the side's NEXT", y.level(size, 0), 2);
        Check.due("7: the side", y.level(size + 1, 0), 4);
        Check.due("7: the side's first", y.level(size + 1, 1), 62);
        Check.due("7: NEXTs behind it", y.level(size + 2, 1), size);
    }

    /** Level 3 is 3 NEXTs of parameter 0, level 4 is ZERO; of other NEXTs there is none. */
    private static LevelRows withThreeNexts(int levels) {
        LevelRows x = withNexts(3);
        Make.fill(x, x.zero(), levels);
        return x;
    }

    /** 7: "IllegalStateException as for zero()": the last put that fits. */
    private static void putInto120Levels() {
        LevelRows x = withThreeNexts(117);
        Check.due("7: three levels where three fit", x.put(3, 0, 4), 119);
        Check.due("7: 120 levels", x.about(0), 120);
        Check.due("7: again", x.put(3, 0, 4), 119);
        Check.due("7: two of them", x.put(2, 0, 4), 118);
        Check.due("7: the first of them", x.level(117, 1), 4);
    }

    /** 7: IllegalStateException, "(likewise)": what was made ahead stays. */
    private static void putBehind120LevelsKeepsWhatWasMade() {
        for (int room = 0; room <= 2; room++) {
            int first = 120 - room;
            int more = room + 1;
            LevelRows x = withThreeNexts(first);
            Check.dueState("7: three levels where " + room + " fit", () -> x.put(3, 0, 4));
            Check.due("7: all of these stay", x.about(0), 120);
            Check.due("7: what is there of them", x.put(room, 0, 4), room == 0 ? 4 : 119);
            Check.due("7: the first of them", x.level(first, 1), room == 0 ? NONE : 4);
            Check.dueState("7: one more where none fits", () -> x.put(more, 0, 4));
        }
    }

    /** 2, 7: a level that is one of the 120 is no new one. */
    private static void putWith120LevelsMakesNone() {
        Edge.allowed("7: full, for itself", Make::full, x -> x.put(119, 0, 0), 119);
        Edge.allowed("7: full, not in it", Make::full, x -> x.put(119, 1, 7), 119);
        Edge.allowed("7: full, the parameter", Make::full, x -> x.put(0, 0, 119), 119);
        Edge.allowed("7: full, one that is there", Make::full, x -> x.put(1, 0, 118), 119);
        Edge.refused("7: full, one that is not", Make::full, x -> x.put(1, 0, 119), Edge.STATE);
        Edge.refused("7: full, one of them is not", Make::full, x -> x.put(119, 0, 1), Edge.STATE);
    }

    /** 20: "Levels, unknowns, needs: what 0 .. 2". */
    private static void aboutEmptyAndFull() {
        int[] most = {120, 10, 30};
        for (int what = 0; what < 3; what++) {
            int asked = what;
            Edge.allowed("20: empty, about(" + what + ")", LevelRows::new, x -> x.about(asked), 0);
            Edge.allowed("20: full, about(" + what + ")", Make::full, x -> x.about(asked), most[what]);
        }
        LevelRows x = new LevelRows();
        x.zero();
        Check.due("20: one level", x.about(0) * 100 + x.about(1) * 10 + x.about(2), 100);
        x.unknown();
        Check.due("20: one unknown", x.about(0) * 100 + x.about(1) * 10 + x.about(2), 110);
        x.need(0, 0, 0);
        Check.due("20: one need", x.about(0) * 100 + x.about(1) * 10 + x.about(2), 111);
    }

    /** 20: "NONE for another what". */
    private static void aboutAnotherWhat() {
        for (int what : new int[] {-1, 3, Check.LAST_INT, Check.FIRST_INT}) {
            Edge.allowed("20: empty, about(" + what + ")", LevelRows::new, x -> x.about(what), NONE);
            Edge.allowed("20: full, about(" + what + ")", Make::full, x -> x.about(what), NONE);
        }
    }

    private static void aboutAfterRefusedCalls() {
        LevelRows x = Make.full();
        Check.dueState("20: a 121st level", x::zero);
        Check.dueState("20: an 11th unknown", x::unknown);
        Check.dueState("20: a 31st need", () -> x.need(0, 0, 0));
        Check.due("20: levels", x.about(0), 120);
        Check.due("20: unknowns", x.about(1), 10);
        Check.due("20: needs", x.about(2), 30);
    }

    /** What it is: "An object is used for at most 512 calls": the last ones are answered as the first. */
    private static void the512thCall() {
        dueAs512th("about(0)", x -> x.about(0), 120);
        dueAs512th("put", x -> x.put(119, 0, 0), 119);
        dueAs512th("value", x -> x.value(119, 4095), 4095);
        dueAs512th("above", x -> x.above(119, 0), NONE);
        dueAs512th("least", x -> x.least(119), 0);
        dueAs512th("solution", x -> x.solution(9), 0);
        dueAs512th("need", x -> x.need(9, 1, 9), 29);
        dueAs512th("undo", x -> Edge.bit(x.undo()), 1);
    }

    private static void dueAs512th(String call, Edge.Asking asking, long want) {
        LevelRows x = Make.full();
        x.undo();
        int calls = Make.CALLS_FOR_FULL + 1;
        for (; calls <= 508; calls += 3) {
            x.need(0, -20, 0);
            x.put(119, 0, 0);
            x.undo();
        }
        for (; calls < 511; calls++) {
            x.isSolved();
        }
        Check.due("the 512th call: " + call, asking.answer(x), want);
    }
}
