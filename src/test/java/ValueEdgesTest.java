/** Promises 8 to 13 at their edges: a test for each sentence that names one. */
final class ValueEdgesTest {
    private static final int NONE = LevelRows.NONE;
    private static final int[] NOT_OF_THREE = {-1, 3, 119, 120, Check.LAST_INT, Check.FIRST_INT};

    private ValueEdgesTest() {
    }

    public static void main(String[] args) {
        valueOfNoLevel();
        valueHas12BitsForEach();
        valueOfUnlessAt0And1();
        valueLeastAndGreatest();
        partOfNoLevel();
        partInRegions0To31();
        partOfParameters0To4();
        partOfParameterOutsideTheRegion();
        partOfParameterThatItDoesNotGrowWith();
        partIsTheGreatestK();
        partOfCAboveEachK();
        partOfCWhereThereIsNoK();
        comparedLevelIsNone();
        atMostIsNotBelow();
        atMostInEveryRegion();
        atMostWithEachParameter();
        sameForAllNumbers();
        sameInEveryRegion();
        leastIsTheFirst();
        leastOf120();
        aboveNowhere();
        aboveWhereAllAre0();
        aboveInTheFirstRegion();
        aboveInEachRegionAlone();
        aboveAtTheLeastNumbers();
        aboveAtOnce();
        aboveParameter0First();
        aboveAtTheFarthest();
        Check.end();
    }

    private static LevelRows three() {
        return Make.withLevels(3);
    }

    /** 8: "NONE if there is no such level". */
    private static void valueOfNoLevel() {
        Edge.allowed("8: value(0, 7) of three", ValueEdgesTest::three, x -> x.value(0, 7), 7);
        Edge.allowed("8: value(2, 7) of three", ValueEdgesTest::three, x -> x.value(2, 7), 7);
        for (int a : NOT_OF_THREE) {
            Edge.allowed("8: value(" + a + ", 7) of three", ValueEdgesTest::three, x -> x.value(a, 7), NONE);
        }
        Edge.allowed("8: value(119, 7) of 120", Make::full, x -> x.value(119, 7), 7);
        Edge.allowed("8: value(120, 7) of 120", Make::full, x -> x.value(120, 7), NONE);
    }

    /** 8: "the lowest 12 bits are parameter 0's number, the next 12 parameter 1's": each bit alone. */
    private static void valueHas12BitsForEach() {
        LevelRows x = new LevelRows();
        for (int p = 0; p < 5; p++) {
            int level = x.parameter(p);
            for (int bit = 0; bit < 64; bit++) {
                int due = bit / 12 == p ? 1 << bit % 12 : 0;
                Check.due("8: parameter " + p + ", bit " + bit, x.value(level, 1L << bit), due);
            }
            Check.due("8: parameter " + p + ", all bits", x.value(level, -1L), 4095);
            Check.due("8: parameter " + p + ", no bits", x.value(level, 0L), 0);
            Check.due("8: parameter " + p + ", all but its own", x.value(level, ~(4095L << 12 * p)), 0);
            Check.due("8: parameter " + p + ", only its own", x.value(level, 4095L << 12 * p), 4095);
        }
    }

    /** Terms: "0 if b's is 0, else the greater of both". */
    private static void valueOfUnlessAt0And1() {
        LevelRows x = new LevelRows();
        int p = x.parameter(0);
        int q = x.parameter(1);
        int u = x.join(p, q, true);
        Check.due("8: UNLESS 9 0", x.value(u, Make.at(9, 0)), 0);
        Check.due("8: UNLESS 9 1", x.value(u, Make.at(9, 1)), 9);
        Check.due("8: UNLESS 9 9", x.value(u, Make.at(9, 9)), 9);
        Check.due("8: UNLESS 9 10", x.value(u, Make.at(9, 10)), 10);
        Check.due("8: UNLESS 0 1", x.value(u, Make.at(0, 1)), 1);
        Check.due("8: UNLESS 0 0", x.value(u, Make.at(0, 0)), 0);
        int v = x.join(q, u, true);
        Check.due("8: UNLESS of one that vanishes", x.value(v, Make.at(9, 0)), 0);
        int g = x.join(p, u, false);
        Check.due("8: GREATER of one that vanishes", x.value(g, Make.at(9, 0)), 9);
    }

    /** Terms: "0", "a's and 1": the least values there are, and the greatest. */
    private static void valueLeastAndGreatest() {
        LevelRows x = new LevelRows();
        int z = x.zero();
        Check.due("8: ZERO", x.value(z, -1L), 0);
        Check.due("8: NEXT ZERO", x.value(x.next(z), -1L), 1);
        int deepest = Make.nexts(x, x.parameter(4), 60);
        Check.due("8: 60 NEXTs of 4095", x.value(deepest, -1L), 4155);
        Check.due("8: 60 NEXTs of 0", x.value(deepest, 0L), 60);
    }

    /** 9: "there is no such level". */
    private static void partOfNoLevel() {
        Edge.allowed("9: part(2, 1, 0) of three", ValueEdgesTest::three, x -> x.part(2, 1, 0), 0);
        for (int a : NOT_OF_THREE) {
            Edge.refused("9: part(" + a + ", 1, 0)", ValueEdgesTest::three, x -> x.part(a, 1, 0), Edge.BOUNDS);
            Edge.refused("9: part(" + a + ", 0, NONE)", ValueEdgesTest::three, x -> x.part(a, 0, NONE), Edge.BOUNDS);
        }
        Edge.allowed("9: part(119, 1, 0) of 120", Make::full, x -> x.part(119, 1, 0), 0);
        Edge.refused("9: part(120, 1, 0) of 120", Make::full, x -> x.part(120, 1, 0), Edge.BOUNDS);
    }

    /** Terms: "A REGION g (.. 0 .. 31)"; 9: "there is no such .. region". */
    private static void partInRegions0To31() {
        Edge.allowed("9: region 0", ValueEdgesTest::three, x -> x.part(2, 0, NONE), 0);
        Edge.allowed("9: region 31", ValueEdgesTest::three, x -> x.part(2, 31, 0), 0);
        for (int region : new int[] {-1, 32, 33, Check.LAST_INT, Check.FIRST_INT}) {
            for (int part = -1; part <= 4; part++) {
                int asked = part;
                Edge.refused("9: region " + region + ", part " + part, ValueEdgesTest::three,
                        x -> x.part(2, region, asked), Edge.BOUNDS);
            }
            Edge.refused("9: full, region " + region, Make::full, x -> x.part(119, region, 0), Edge.BOUNDS);
        }
    }

    /** 9: "there is no such .. parameter"; x = NONE is c. */
    private static void partOfParameters0To4() {
        for (int p = 0; p <= 4; p++) {
            int parameter = p;
            Edge.Making alone = () -> {
                LevelRows x = new LevelRows();
                x.next(x.parameter(parameter));
                return x;
            };
            Edge.allowed("9: parameter " + p, alone, x -> x.part(1, 31, parameter), 1);
            Edge.allowed("9: parameter " + p + " alone", alone, x -> x.part(1, 1 << parameter, parameter), 1);
            Edge.allowed("9: c beside parameter " + p, alone, x -> x.part(1, 31, NONE), NONE);
            Edge.allowed("9: c without parameter " + p, alone, x -> x.part(1, 31 - (1 << parameter), NONE), 1);
        }
        for (int p : new int[] {-2, 5, 6, Check.LAST_INT, Check.FIRST_INT}) {
            for (int region : new int[] {0, 1, 31}) {
                Edge.refused("9: part(2, " + region + ", " + p + ")", ValueEdgesTest::three,
                        x -> x.part(2, region, p), Edge.BOUNDS);
            }
        }
    }

    /** 9: "NONE if there is none (of x too if it is not in the region)". */
    private static void partOfParameterOutsideTheRegion() {
        LevelRows x = new LevelRows();
        int all = x.parameter(0);
        for (int p = 1; p < 5; p++) {
            all = x.join(all, x.parameter(p), false);
        }
        for (int region = 0; region < 32; region++) {
            for (int p = 0; p < 5; p++) {
                int due = (region >> p & 1) != 0 ? 0 : NONE;
                Check.due("9: parameter " + p + " in region " + region, x.part(all, region, p), due);
            }
            Check.due("9: c in region " + region, x.part(all, region, NONE), region == 0 ? 0 : NONE);
        }
    }

    /** Terms: "NONE if there is none: then its value doesn't grow with x". */
    private static void partOfParameterThatItDoesNotGrowWith() {
        LevelRows x = new LevelRows();
        int p = x.parameter(0);
        int q = x.parameter(1);
        int z = x.zero();
        int u = x.join(p, q, true);
        Check.due("9: p in UNLESS p q, with q", x.part(u, 3, 0), 0);
        Check.due("9: p in UNLESS p q, without q", x.part(u, 1, 0), NONE);
        Check.due("9: c in UNLESS p q, without q", x.part(u, 1, NONE), 0);
        Check.due("9: r in UNLESS p q", x.part(u, 31, 2), NONE);
        Check.due("9: p in UNLESS p 0", x.part(x.join(p, z, true), 31, 0), NONE);
        Check.due("9: p in ZERO", x.part(z, 31, 0), NONE);
        Check.due("9: p in UNLESS p NEXT 0", x.part(x.join(p, x.next(z), true), 1, 0), 0);
    }

    /** Terms: "of x the greatest such k". */
    private static void partIsTheGreatestK() {
        LevelRows x = new LevelRows();
        int p = x.parameter(0);
        int two = Make.nexts(x, p, 2);
        int three = x.next(two);
        Check.due("9: k of 2 and 3", x.part(x.join(two, three, false), 1, 0), 3);
        Check.due("9: k of 3 and 2", x.part(x.join(three, two, false), 1, 0), 3);
        Check.due("9: k of 3 and 0", x.part(x.join(three, p, true), 1, 0), 3);
        Check.due("9: k of 0 and 3", x.part(x.join(p, three, true), 1, 0), 3);
        int deepest = Make.nexts(x, three, 57);
        Check.due("9: k of 60", x.part(deepest, 1, 0), 60);
        Check.due("9: c of 60", x.part(deepest, 0, NONE), 60);
    }

    /** Terms: "c, the value where all parameters of g are 1, if that is above each k + 1 of these". */
    private static void partOfCAboveEachK() {
        for (int c = 0; c <= 6; c++) {
            for (int k = 0; k <= 4; k++) {
                LevelRows x = new LevelRows();
                int number = Make.nexts(x, x.zero(), c);
                int grows = Make.nexts(x, x.parameter(3), k);
                int g = x.join(number, grows, false);
                int u = x.join(number, grows, true);
                String which = "9: c of " + c + " beside " + k;
                Check.due(which, x.part(g, 8, NONE), c > k + 1 ? c : NONE);
                Check.due(which + ", in NEXT", x.part(x.next(g), 8, NONE), c > k + 1 ? c + 1 : NONE);
                Check.due(which + ", in UNLESS", x.part(u, 8, NONE), c > k + 1 ? c : NONE);
                int more = x.join(g, Make.nexts(x, x.parameter(1), 3), false);
                Check.due(which + " and 3", x.part(more, 10, NONE), c > k + 1 && c > 4 ? c : NONE);
                Check.due(which + " and 3, region 8", x.part(more, 8, NONE), Math.max(c, 3) > k + 1 ? Math.max(c, 3) : NONE);
            }
        }
        LevelRows x = new LevelRows();
        int most = Make.nexts(x, x.zero(), 60);
        int grows = Make.nexts(x, x.parameter(0), 57);
        Check.due("9: c of 60 beside 57", x.part(x.join(most, grows, false), 1, NONE), 60);
    }

    /** Terms: where there is no k, c is above each of none, and is told even if it is 0. */
    private static void partOfCWhereThereIsNoK() {
        LevelRows x = new LevelRows();
        int z = x.zero();
        int p = x.parameter(0);
        int one = x.next(z);
        for (int region = 0; region < 32; region++) {
            Check.due("9: c of 0 in region " + region, x.part(z, region, NONE), 0);
            Check.due("9: c of 1 in region " + region, x.part(one, region, NONE), 1);
            Check.due("9: c of p in region " + region, x.part(p, region, NONE), (region & 1) == 0 ? 0 : NONE);
        }
    }

    /** 10, 11, 12, 13: "one of them is none", "there is no such level". */
    private static void comparedLevelIsNone() {
        dueOfTwo("10: isAtMost", (x, a, b) -> Edge.bit(x.isAtMost(a, b)), 1);
        dueOfTwo("11: isSame", (x, a, b) -> Edge.bit(x.isSame(a, b)), 1);
        dueOfTwo("12: least, once of each", (x, a, b) -> Math.max(x.least(a), x.least(b)), 0);
        dueOfTwo("13: above", (x, a, b) -> x.above(a, b), NONE);
    }

    private interface OfTwo {
        long answer(LevelRows x, int a, int b);
    }

    private static void dueOfTwo(String call, OfTwo two, long alike) {
        Edge.allowed(call + "(0, 2) of three", ValueEdgesTest::three, x -> two.answer(x, 0, 2), alike);
        Edge.allowed(call + "(2, 0) of three", ValueEdgesTest::three, x -> two.answer(x, 2, 0), alike);
        for (int a : NOT_OF_THREE) {
            Edge.refused(call + "(" + a + ", 2)", ValueEdgesTest::three, x -> two.answer(x, a, 2), Edge.BOUNDS);
            Edge.refused(call + "(2, " + a + ")", ValueEdgesTest::three, x -> two.answer(x, 2, a), Edge.BOUNDS);
            Edge.refused(call + "(both " + a + ")", ValueEdgesTest::three, x -> two.answer(x, a, a), Edge.BOUNDS);
        }
        Edge.allowed(call + "(119, 0) of 120", Make::full, x -> two.answer(x, 119, 0), alike);
        Edge.refused(call + "(120, 0) of 120", Make::full, x -> two.answer(x, 120, 0), Edge.BOUNDS);
        Edge.refused(call + "(0, 120) of 120", Make::full, x -> two.answer(x, 0, 120), Edge.BOUNDS);
    }

    /** Terms: "a is AT MOST b if its value is": equal is at most, one more is not. */
    private static void atMostIsNotBelow() {
        LevelRows x = new LevelRows();
        int p = x.parameter(0);
        int np = x.next(p);
        int two = Make.nexts(x, x.zero(), 2);
        int three = x.next(two);
        Check.due("10: p, p", x.isAtMost(p, p), true);
        Check.due("10: p, p + 1", x.isAtMost(p, np), true);
        Check.due("10: p + 1, p", x.isAtMost(np, p), false);
        Check.due("10: 2, 2", x.isAtMost(two, two), true);
        Check.due("10: 2, 3", x.isAtMost(two, three), true);
        Check.due("10: 3, 2", x.isAtMost(three, two), false);
        Check.due("10: 2 where p is above 0, p + 1", x.isAtMost(x.join(two, p, true), np), true);
        Check.due("10: 3 where p is above 0, p + 1", x.isAtMost(x.join(three, p, true), np), false);
        Check.due("10: 2, p + 2", x.isAtMost(two, x.next(np)), true);
        Check.due("10: 3, p + 2", x.isAtMost(three, x.next(np)), false);
    }

    /** Terms: "for all numbers of the parameters": a level that is more in one region and nowhere else. */
    private static void atMostInEveryRegion() {
        for (int region = 0; region < 32; region++) {
            LevelRows x = new LevelRows();
            int more = aloneIn(x, region, 3);
            int less = aloneIn(x, region, 2);
            Check.due("10: more in region " + region, x.isAtMost(more, less), false);
            Check.due("10: less in region " + region, x.isAtMost(less, more), true);
        }
    }

    /** It has the number where just the region's parameters are above 0, and 3 where another one is. */
    private static int aloneIn(LevelRows x, int region, int number) {
        int level = Make.nexts(x, x.zero(), number);
        int three = Make.nexts(x, x.zero(), 3);
        for (int p = 0; p < 5; p++) {
            if ((region >> p & 1) != 0) {
                level = x.join(level, x.parameter(p), true);
            }
        }
        for (int p = 0; p < 5; p++) {
            if ((region >> p & 1) == 0) {
                level = x.join(level, x.join(three, x.parameter(p), true), false);
            }
        }
        return level;
    }

    /** Terms: "for all numbers of the parameters": one that grows is above each number somewhere. */
    private static void atMostWithEachParameter() {
        for (int p = 0; p < 5; p++) {
            LevelRows x = new LevelRows();
            int grows = x.parameter(p);
            int most = Make.nexts(x, x.zero(), 60);
            Check.due("10: parameter " + p + ", 60", x.isAtMost(grows, most), false);
            Check.due("10: 60, parameter " + p, x.isAtMost(most, grows), false);
            int other = x.parameter((p + 1) % 5);
            Check.due("10: parameter " + p + ", another", x.isAtMost(grows, other), false);
            Check.due("10: parameter " + p + ", both", x.isAtMost(grows, x.join(other, grows, false)), true);
        }
    }

    /** Terms: "THE SAME if their values are" for all numbers; one is at most the other is not enough. */
    private static void sameForAllNumbers() {
        LevelRows x = new LevelRows();
        int z = x.zero();
        int p = x.parameter(0);
        int one = x.next(z);
        Check.due("11: a level and itself", x.isSame(p, p), true);
        Check.due("11: p, p + 1", x.isSame(p, x.next(p)), false);
        Check.due("11: p + 1, p", x.isSame(x.next(p), p), false);
        Check.due("11: UNLESS 1 p, p", x.isSame(x.join(one, p, true), p), true);
        Check.due("11: UNLESS 2 p, p", x.isSame(x.join(x.next(one), p, true), p), false);
        Check.due("11: GREATER 1 p + 1, p + 1", x.isSame(x.join(one, x.next(p), false), x.next(p)), true);
        Check.due("11: GREATER 1 p, p", x.isSame(x.join(one, p, false), p), false);
        Check.due("11: UNLESS p 0, 0", x.isSame(x.join(p, z, true), z), true);
        Check.due("11: UNLESS p 1, GREATER p 1", x.isSame(x.join(p, one, true), x.join(p, one, false)), true);
    }

    private static void sameInEveryRegion() {
        for (int region = 0; region < 32; region++) {
            LevelRows x = new LevelRows();
            int three = aloneIn(x, region, 3);
            int two = aloneIn(x, region, 2);
            Check.due("11: 3 and 2 in region " + region, x.isSame(three, two), false);
            Check.due("11: 2 and 3 in region " + region, x.isSame(two, three), false);
            Check.due("11: 3 and 3 in region " + region, x.isSame(three, x.join(two, three, false)), true);
        }
    }

    /** 12: "The least level (by its number) that is the same as a": itself, if no other one is. */
    private static void leastIsTheFirst() {
        LevelRows x = new LevelRows();
        int p = x.parameter(0);
        int q = x.parameter(1);
        int g = x.join(p, q, false);
        int h = x.join(q, p, false);
        int k = x.join(h, h, false);
        Check.due("12: the first level", x.least(p), p);
        Check.due("12: one that is like none ahead of it", x.least(q), q);
        Check.due("12: one that later ones are like", x.least(g), g);
        Check.due("12: one that is like the one ahead", x.least(h), g);
        Check.due("12: one that is like two", x.least(k), g);
        Check.due("12: the last level", x.least(x.next(k)), k + 1);
        LevelRows y = Make.withLevels(1);
        Check.due("12: the only level", y.least(0), 0);
    }

    private static void leastOf120() {
        Edge.allowed("12: the 120th is like the first", Make::full, x -> x.least(119), 0);
        LevelRows x = Make.withLevels(118);
        int z = x.zero();
        int last = x.next(z);
        Check.due("12: the 120th is like none", x.least(last), 119);
        Check.due("12: the 119th is like none", x.least(z), 118);
        Check.due("12: the 118th is like the first", x.least(117), 0);
    }

    /** 13: "NONE if there is none". */
    private static void aboveNowhere() {
        LevelRows x = new LevelRows();
        int z = x.zero();
        int p = x.parameter(0);
        Check.due("13: 0, 0", x.above(z, z), NONE);
        Check.due("13: 0, p", x.above(z, p), NONE);
        Check.due("13: p, p", x.above(p, p), NONE);
        Check.due("13: p, p + 1", x.above(p, x.next(p)), NONE);
        Check.due("13: UNLESS 1 p, p", x.above(x.join(x.next(z), p, true), p), NONE);
    }

    /** 13: where all numbers are 0 the answer is 0, which is not NONE. */
    private static void aboveWhereAllAre0() {
        LevelRows x = new LevelRows();
        int one = x.next(x.zero());
        int p = x.parameter(0);
        Check.due("13: 1, 0", x.above(one, 0), 0);
        Check.due("13: 1, p", x.above(one, p), 0);
        Check.due("13: p + 1, p", x.above(x.next(p), p), 0);
    }

    /** 13: "The first region": by its number, not by how many parameters are in it. */
    private static void aboveInTheFirstRegion() {
        LevelRows x = new LevelRows();
        int p = x.parameter(0);
        int q = x.parameter(1);
        int r = x.parameter(2);
        int two = Make.nexts(x, x.zero(), 2);
        int inThree = x.join(x.join(two, p, true), q, true);
        int either = x.join(p, q, false);
        Check.due("13: in regions 3 and 4", x.above(x.join(inThree, r, false), either), Make.at(1, 1));
        Check.due("13: in region 4 and above", x.above(r, either), Make.at(0, 0, 1));
        Check.due("13: in regions 1 and 2", x.above(either, x.zero()), Make.at(1));
        Check.due("13: in region 2 and above", x.above(either, p), Make.at(0, 1));
    }

    private static void aboveInEachRegionAlone() {
        for (int region = 0; region < 32; region++) {
            LevelRows x = new LevelRows();
            int more = aloneIn(x, region, 3);
            int less = aloneIn(x, region, 2);
            long ones = 0;
            for (int p = 0; p < 5; p++) {
                ones |= (long) (region >> p & 1) << 12 * p;
            }
            Check.due("13: more in region " + region, x.above(more, less), ones);
            Check.due("13: less in region " + region, x.above(less, more), NONE);
        }
    }

    /** 13: "each number the least of 0, 1, 2 ..": 0 outside of the region, 1 or more in it. */
    private static void aboveAtTheLeastNumbers() {
        for (int p = 0; p < 5; p++) {
            for (int c = 0; c <= 3; c++) {
                LevelRows x = new LevelRows();
                int grows = x.parameter(p);
                int number = Make.nexts(x, x.zero(), c);
                String call = "13: parameter " + p;
                Check.due(call + ", " + c, x.above(grows, number), (c + 1L) << 12 * p);
                Check.due(call + " + 1, " + c, x.above(x.next(grows), number), c == 0 ? 0 : (long) c << 12 * p);
                Check.due(call + " + 2, " + c, x.above(x.next(x.next(grows)), number),
                        c < 2 ? 0 : (c - 1L) << 12 * p);
            }
        }
    }

    /** 13: where a is above b at once the numbers stay at 1, though a parameter grows more in a. */
    private static void aboveAtOnce() {
        for (int p = 0; p < 5; p++) {
            for (int more = 1; more <= 3; more++) {
                LevelRows x = new LevelRows();
                int grows = x.parameter(p);
                int vanishes = x.join(Make.nexts(x, grows, more), grows, true);
                Check.due("13: parameter " + p + " + " + more + " where it is", x.above(vanishes, grows), 1L << 12 * p);
            }
        }
    }

    /**
     * 13: "that goes on from the ones before (parameter 0 first)". Each parameter could come above: the
     * last one does, so that those ahead of it stay at 1, and if it can't, then the one ahead of it.
     */
    private static void aboveParameter0First() {
        for (int last = 1; last < 5; last++) {
            LevelRows x = new LevelRows();
            int level = x.zero();
            int bound = Make.nexts(x, level, 10);
            long ones = 0;
            for (int p = 0; p <= last; p++) {
                level = x.join(level, threeMoreWithAll(x, p, last), false);
                bound = x.join(bound, x.parameter(p), false);
                ones |= 1L << 12 * p;
            }
            Check.due("13: the last of 0 .. " + last, x.above(level, bound), ones + (7L << 12 * last));
            int higher = x.join(bound, Make.nexts(x, x.parameter(last), 3), false);
            Check.due("13: the one ahead of " + last, x.above(level, higher), ones + (7L << 12 * (last - 1)));
        }
    }

    /** The parameter and 3 where all others of 0 .. last are above 0 too, else no more than these. */
    private static int threeMoreWithAll(LevelRows x, int p, int last) {
        int level = Make.nexts(x, x.parameter(p), 3);
        for (int other = 0; other <= last; other++) {
            if (other != p) {
                level = x.join(level, x.parameter(other), true);
            }
        }
        return level;
    }

    /** 13: no number comes near 200: the most that one has to pass is 60 NEXTs of a 1. */
    private static void aboveAtTheFarthest() {
        LevelRows x = new LevelRows();
        int p = x.parameter(0);
        int q = x.parameter(1);
        int far = Make.nexts(x, q, 60);
        Check.due("13: p, q + 60", x.above(p, far), Make.at(61));
        Check.due("13: UNLESS p q, q + 60", x.above(x.join(p, q, true), far), Make.at(62, 1));
        Check.due("13: q + 60, p", x.above(far, p), 0);
    }
}
