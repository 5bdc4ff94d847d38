/** Promises 8 to 13: values, parts, and how levels compare. */
final class ValuesTest {
    private static final int NONE = LevelRows.NONE;
    private static final int[] WRONG = {-1, 120, Check.LAST_INT, Check.FIRST_INT};

    private ValuesTest() {
    }

    public static void main(String[] args) {
        value();
        part();
        partOfHidden();
        partWrong();
        isAtMost();
        isSame();
        least();
        above();
        aboveFar();
        aboveLastParameter();
        wrongLevels();
        Check.end();
    }

    private static void value() {
        LevelRows x = new LevelRows();
        int z = x.zero();
        Check.due("ZERO's value", x.value(z, -1L), 0);
        long v = Make.at(1, 22, 333, 4095, 2048);
        int[] numbers = {1, 22, 333, 4095, 2048};
        for (int p = 0; p < 5; p++) {
            int level = x.parameter(p);
            Check.due("value of parameter " + p, x.value(level, v), numbers[p]);
            Check.due("value of parameter " + p + " at -1", x.value(level, -1L), 4095);
            Check.due("value of parameter " + p + " at the top bits", x.value(level, 0xFL << 60), 0);
            Check.due("value of parameter " + p + " at 0", x.value(level, 0), 0);
        }
        int p0 = x.parameter(0);
        int p1 = x.parameter(1);
        Check.due("NEXT's value", x.value(x.next(p1), v), 23);
        Check.due("NEXT's value at 0", x.value(x.next(p1), 0), 1);
        int greater = x.join(p0, p1, false);
        int unless = x.join(p0, p1, true);
        int[][] due = {{0, 0, 0, 0}, {5, 0, 5, 0}, {0, 5, 5, 5}, {3, 5, 5, 5}, {5, 3, 5, 5}, {4, 4, 4, 4}};
        for (int[] d : due) {
            Check.due("GREATER at " + d[0] + ", " + d[1], x.value(greater, Make.at(d[0], d[1])), d[2]);
            Check.due("UNLESS at " + d[0] + ", " + d[1], x.value(unless, Make.at(d[0], d[1])), d[3]);
        }
        int within = x.join(x.next(x.next(p0)), x.join(z, p1, true), true);
        Check.due("UNLESS in UNLESS at 7, 0", x.value(within, Make.at(7, 0)), 0);
        Check.due("UNLESS in UNLESS at 7, 1", x.value(within, Make.at(7, 1)), 9);
        Check.due("60 NEXTs of 4095", x.value(Make.nexts(x, p0, 60), Make.at(4095)), 4155);
        Check.due("no such level", x.value(x.about(0), 0), NONE);
        for (int a : WRONG) {
            Check.due("value(" + a + ", 0)", x.value(a, 0), NONE);
        }
    }

    private static void part() {
        LevelRows x = new LevelRows();
        int z = x.zero();
        int p4 = x.parameter(4);
        int p0 = x.parameter(0);
        int u = x.join(Make.nexts(x, p0, 2), p4, true);
        for (int region = 0; region < 32; region++) {
            boolean has0 = (region & 1) != 0;
            boolean has4 = (region & 16) != 0;
            String in = " in region " + region;
            Check.due("c of ZERO" + in, x.part(z, region, NONE), 0);
            Check.due("parameter 4 of itself" + in, x.part(p4, region, 4), has4 ? 0 : NONE);
            Check.due("c of parameter 4" + in, x.part(p4, region, NONE), has4 ? NONE : 0);
            Check.due("parameter 0 of UNLESS" + in, x.part(u, region, 0), has0 && has4 ? 2 : NONE);
            Check.due("parameter 4 of UNLESS" + in, x.part(u, region, 4), has4 ? 0 : NONE);
            Check.due("c of UNLESS" + in, x.part(u, region, NONE), !has4 ? 0 : has0 ? NONE : 2);
            for (int other = 1; other < 4; other++) {
                Check.due("parameter " + other + " of UNLESS" + in, x.part(u, region, other), NONE);
            }
        }
        int deepest = Make.nexts(x, p0, 60);
        Check.due("parameter 0 of 60 NEXTs", x.part(deepest, 1, 0), 60);
        Check.due("c of 60 NEXTs", x.part(deepest, 1, NONE), NONE);
        Check.due("c of 60 NEXTs in region 0", x.part(deepest, 0, NONE), 60);
    }

    /** c is told only if it is above each k + 1: of GREATER (k NEXTs of a parameter) (c NEXTs of ZERO). */
    private static void partOfHidden() {
        LevelRows x = new LevelRows();
        int z = x.zero();
        int p0 = x.parameter(0);
        int p1 = x.parameter(1);
        int k3 = Make.nexts(x, p0, 3);
        int k1 = Make.nexts(x, p1, 1);
        for (int c = 0; c < 8; c++) {
            int numbers = Make.nexts(x, z, c);
            int g = x.join(numbers, k3, false);
            Check.due("k of 3 beside " + c, x.part(g, 1, 0), 3);
            Check.due("c of " + c + " beside 3", x.part(g, 1, NONE), c > 4 ? c : NONE);
            Check.due("c in region 0", x.part(g, 0, NONE), Math.max(c, 3));
            int both = x.join(k1, g, true);
            Check.due("c of " + c + " beside 3 and 1", x.part(both, 3, NONE), c > 4 ? c : NONE);
            Check.due("k of 1 beside " + c, x.part(both, 3, 1), 1);
            int more = x.next(both);
            Check.due("k of NEXT of these", x.part(more, 3, 0), 4);
            Check.due("c of NEXT of these", x.part(more, 3, NONE), c > 4 ? c + 1 : NONE);
            Check.due("c of NEXT in region 2", x.part(more, 2, NONE), Math.max(c, 3) > 2 ? Math.max(c, 3) + 1 : NONE);
        }
    }

    private static void partWrong() {
        LevelRows x = new LevelRows();
        x.parameter(0);
        for (int a : new int[] {-1, 1, Check.LAST_INT, Check.FIRST_INT}) {
            Check.dueOutOfBounds("part(" + a + ", 1, 0)", () -> x.part(a, 1, 0));
            Check.dueOutOfBounds("part(" + a + ", 1, NONE)", () -> x.part(a, 1, NONE));
        }
        for (int region : new int[] {-1, 32, 33, Check.LAST_INT, Check.FIRST_INT}) {
            Check.dueOutOfBounds("part(0, " + region + ", 0)", () -> x.part(0, region, 0));
            Check.dueOutOfBounds("part(0, " + region + ", NONE)", () -> x.part(0, region, NONE));
        }
        for (int p : new int[] {-2, 5, 6, Check.LAST_INT, Check.FIRST_INT}) {
            Check.dueOutOfBounds("part(0, 1, " + p + ")", () -> x.part(0, 1, p));
            Check.dueOutOfBounds("part(0, 0, " + p + ")", () -> x.part(0, 0, p));
        }
        Check.due("part of a parameter that is not in the region", x.part(0, 30, 0), NONE);
        Check.due("part of a parameter that is", x.part(0, 31, 0), 0);
    }

    private static void isAtMost() {
        LevelRows x = new LevelRows();
        int z = x.zero();
        int p = x.parameter(0);
        int q = x.parameter(1);
        int np = x.next(p);
        int one = x.next(z);
        int unless = x.join(p, q, true);
        int greater = x.join(p, q, false);
        int seen = x.join(one, p, false);
        boolean[][] due = {
            {true, true, true, true, true, true, true, true},
            {false, true, false, true, false, false, true, true},
            {false, false, true, false, false, true, true, false},
            {false, false, false, true, false, false, false, false},
            {false, false, false, true, true, false, false, true},
            {false, false, false, false, false, true, true, false},
            {false, false, false, false, false, false, true, false},
            {false, false, false, true, false, false, false, true}};
        int[] all = {z, p, q, np, one, unless, greater, seen};
        for (int a = 0; a < all.length; a++) {
            for (int b = 0; b < all.length; b++) {
                Check.due("isAtMost " + a + ", " + b, x.isAtMost(all[a], all[b]), due[a][b]);
                Check.due("above " + a + ", " + b, x.above(all[a], all[b]) == NONE, due[a][b]);
            }
        }
        int many = Make.nexts(x, z, 45);
        Check.due("a parameter is not at most 45", x.isAtMost(p, many), false);
        Check.due("45 NEXTs of a parameter are not at most 45", x.isAtMost(Make.nexts(x, p, 45), many), false);
        Check.due("45 is at most 45 NEXTs of a parameter", x.isAtMost(many, Make.nexts(x, p, 45)), true);
        Check.due("1 is at most a parameter in UNLESS", x.isAtMost(x.join(one, p, true), p), true);
        Check.due("2 is not", x.isAtMost(x.join(x.next(one), p, true), p), false);
    }

    private static void isSame() {
        LevelRows x = new LevelRows();
        int z = x.zero();
        int p = x.parameter(0);
        int q = x.parameter(1);
        int one = x.next(z);
        Check.due("a level and itself", x.isSame(q, q), true);
        Check.due("two parameters", x.isSame(p, q), false);
        Check.due("GREATER p q and GREATER q p", x.isSame(x.join(p, q, false), x.join(q, p, false)), true);
        Check.due("UNLESS p q and UNLESS q p", x.isSame(x.join(p, q, true), x.join(q, p, true)), false);
        Check.due("UNLESS p q and GREATER p q", x.isSame(x.join(p, q, true), x.join(p, q, false)), false);
        Check.due("UNLESS p p and p", x.isSame(x.join(p, p, true), p), true);
        Check.due("UNLESS 0 p and p", x.isSame(x.join(z, p, true), p), true);
        Check.due("UNLESS p 0 and 0", x.isSame(x.join(p, z, true), z), true);
        Check.due("UNLESS 1 p and p", x.isSame(x.join(one, p, true), p), true);
        Check.due("GREATER 1 p and p", x.isSame(x.join(one, p, false), p), false);
        Check.due("UNLESS 2 p and p", x.isSame(x.join(x.next(one), p, true), p), false);
        int raised = x.next(x.join(p, q, false));
        int apart = x.join(x.next(p), x.next(q), false);
        Check.due("NEXT of GREATER and GREATER of NEXTs", x.isSame(raised, apart), true);
        int last = x.parameter(4);
        int five = x.join(x.parameter(2), x.join(x.parameter(3), last, true), true);
        int other = x.join(x.join(x.parameter(2), x.parameter(3), false), last, true);
        Check.due("levels that differ where parameter 3 is 0 only", x.isSame(five, other), true);
        Check.due("with one more NEXT", x.isSame(five, x.next(other)), false);
        int any = x.join(p, x.join(q, x.join(x.parameter(2), x.join(x.parameter(3), last, false), false), false), false);
        Check.due("levels that differ where all are 0 only", x.isSame(any, x.join(one, any, false)), false);
        Check.due("levels that differ where all are above 0 only", x.isSame(onAll(x, 1), onAll(x, 2)), false);
    }

    /** A level in which these NEXTs of parameter 0 count only where no parameter is 0. */
    private static int onAll(LevelRows x, int more) {
        int last = Make.nexts(x, x.parameter(0), more);
        for (int p = 0; p < 5; p++) {
            last = x.join(last, x.parameter(p), true);
        }
        return last;
    }

    private static void least() {
        LevelRows x = new LevelRows();
        int p = x.parameter(0);
        int q = x.parameter(1);
        int g = x.join(p, q, false);
        int h = x.join(q, p, false);
        int k = x.join(h, g, false);
        Check.due("least of the first", x.least(p), p);
        Check.due("least of the second", x.least(q), q);
        Check.due("least of GREATER", x.least(g), g);
        Check.due("least of GREATER the other way", x.least(h), g);
        Check.due("least of both", x.least(k), g);
        int z = x.join(p, x.zero(), true);
        Check.due("least of UNLESS p 0", x.least(z), z - 1);
        Check.due("least of UNLESS p p", x.least(x.join(p, p, true)), p);
        int alone = x.next(k);
        Check.due("least of one that is like no other", x.least(alone), alone);
    }

    private static void above() {
        LevelRows x = new LevelRows();
        int z = x.zero();
        int p = x.parameter(0);
        int q = x.parameter(1);
        int last = x.parameter(4);
        Check.due("above(p, p)", x.above(p, p), NONE);
        Check.due("above(0, p)", x.above(z, p), NONE);
        Check.due("above(1, p)", x.above(x.next(z), p), 0);
        Check.due("above(p, 0)", x.above(p, z), Make.at(1));
        Check.due("above(p, q)", x.above(p, q), Make.at(1));
        Check.due("above(q, p)", x.above(q, p), Make.at(0, 1));
        Check.due("above(parameter 4, p)", x.above(last, p), Make.at(0, 0, 0, 0, 1));
        Check.due("above(2 in UNLESS p, p)", x.above(x.join(Make.nexts(x, z, 2), p, true), p), Make.at(1));
        Check.due("above(3 NEXTs of p in UNLESS p, p)", x.above(x.join(Make.nexts(x, p, 3), p, true), p), Make.at(1));
        Check.due("above(3 NEXTs of p in UNLESS q, q)", x.above(x.join(Make.nexts(x, p, 3), q, true), q), Make.at(0, 1));
        int both = x.join(p, q, true);
        Check.due("above(UNLESS p q, q)", x.above(both, q), Make.at(2, 1));
        Check.due("above(UNLESS p q, p)", x.above(both, p), Make.at(0, 1));
        Check.due("above(GREATER p q, UNLESS p q)", x.above(x.join(p, q, false), both), Make.at(1));
        int all = x.join(x.next(p), x.join(q, last, true), true);
        Check.due("above in region 17", x.above(all, x.join(q, last, true)), Make.at(1, 0, 0, 0, 1));
    }

    private static void aboveFar() {
        LevelRows x = new LevelRows();
        int z = x.zero();
        int p = x.parameter(0);
        int q = x.parameter(1);
        Check.due("above(p, 60)", x.above(p, Make.nexts(x, z, 60)), Make.at(61));
        Check.due("above(3 NEXTs of p, 60)", x.above(Make.nexts(x, p, 3), Make.nexts(x, z, 60)), Make.at(58));
        int far = Make.nexts(x, q, 40);
        Check.due("above(p, 40 NEXTs of q)", x.above(p, far), Make.at(41));
        Check.due("above(UNLESS p q, 40 NEXTs of q)", x.above(x.join(p, q, true), far), Make.at(42, 1));
        LevelRows y = new LevelRows();
        int yp = y.parameter(3);
        int yq = y.parameter(4);
        int farthest = Make.nexts(y, yq, 60);
        Check.due("above: the farthest number", y.above(y.join(yp, yq, true), farthest), Make.at(0, 0, 0, 62, 1));
    }

    /** Parameters 0 and 1 could both come above: 0 stays least, and 1 goes on from there. */
    private static void aboveLastParameter() {
        LevelRows x = new LevelRows();
        int p = x.parameter(0);
        int q = x.parameter(1);
        int r = x.parameter(2);
        int a = x.join(x.join(p, q, false), r, true);
        int b = Make.nexts(x, r, 5);
        Check.due("above in region 5", x.above(a, b), Make.at(7, 0, 1));
        int only = x.join(p, x.join(q, r, true), true);
        int both = x.join(x.join(x.next(q), p, true), x.join(p, x.join(q, r, true), true), true);
        Check.due("above, UNLESS p UNLESS q r", x.above(only, b), Make.at(7, 0, 1));
        Check.due("above, more of these", x.above(both, b), Make.at(7, 0, 1));
        int inner = x.join(x.join(p, q, true), x.join(q, p, true), false);
        int bound = x.join(p, Make.nexts(x, r, 5), false);
        Check.due("above, but for p", x.above(x.join(inner, r, true), bound), Make.at(0, 7, 1));
        int near = x.join(x.join(p, b, false), x.join(q, b, false), false);
        Check.due("above with all parameters", x.above(x.next(near), near), 0);
        LevelRows y = new LevelRows();
        int s = y.parameter(0);
        int t = y.parameter(1);
        int three = Make.nexts(y, y.zero(), 3);
        int pair = y.join(y.join(s, t, true), y.join(t, s, true), true);
        Check.due("both, against 3", y.above(pair, three), Make.at(4));
        int apart = y.join(y.join(s, t, false), y.join(three, s, true), true);
        Check.due("both, against 3 where s is", y.above(apart, y.join(s, three, false)), Make.at(1, 4));
    }

    private static void wrongLevels() {
        LevelRows x = new LevelRows();
        x.zero();
        for (int a : new int[] {-1, 1, 119, 120, Check.LAST_INT, Check.FIRST_INT}) {
            Check.dueOutOfBounds("isAtMost(" + a + ", 0)", () -> x.isAtMost(a, 0) ? 1 : 0);
            Check.dueOutOfBounds("isAtMost(0, " + a + ")", () -> x.isAtMost(0, a) ? 1 : 0);
            Check.dueOutOfBounds("isSame(" + a + ", 0)", () -> x.isSame(a, 0) ? 1 : 0);
            Check.dueOutOfBounds("isSame(0, " + a + ")", () -> x.isSame(0, a) ? 1 : 0);
            Check.dueOutOfBounds("isSame(" + a + ", " + a + ")", () -> x.isSame(a, a) ? 1 : 0);
            Check.dueOutOfBounds("least(" + a + ")", () -> x.least(a));
            Check.dueOutOfBounds("above(" + a + ", 0)", () -> x.above(a, 0));
            Check.dueOutOfBounds("above(0, " + a + ")", () -> x.above(0, a));
        }
    }
}
