import java.util.Arrays;

/**
 * Levels of sorts over parameters, which of them are never above others, and the least numbers of
 * unknown levels by rows of needs.
 */
public final class LevelRows {
    public static final int NONE = -1;

    private static final int ZERO = 0;
    private static final int PARAMETER = 1;
    private static final int NEXT = 2;
    private static final int GREATER = 3;
    private static final int UNLESS = 4;

    private static final int PARAMETERS = 5;
    private static final int REGIONS = 32;
    private static final int MOST_LEVELS = 120;
    private static final int MOST_NEXTS = 60;
    private static final int MOST_UNKNOWNS = 10;
    private static final int MOST_NEEDS = 30;
    private static final int MOST_STEP = 20;

    private static final int NUMBER_BITS = 12;
    private static final int NUMBER_MASK = (1 << NUMBER_BITS) - 1;

    private final Levels levels;
    private final Replacement replacement;
    private final Needs needs;

    public LevelRows() {
        levels = new Levels();
        replacement = new Replacement(levels);
        needs = new Needs();
    }

    public int zero() throws IllegalStateException {
        return levels.made(ZERO, NONE, NONE);
    }

    public int parameter(int p) throws IndexOutOfBoundsException, IllegalStateException {
        checkParameter(p);
        return levels.made(PARAMETER, p, NONE);
    }

    public int next(int a) throws IndexOutOfBoundsException, IllegalArgumentException, IllegalStateException {
        checkLevel(a);
        return levels.made(NEXT, a, NONE);
    }

    public int join(int a, int b, boolean unless) throws IndexOutOfBoundsException, IllegalStateException {
        checkLevel(a);
        checkLevel(b);
        return levels.made(unless ? UNLESS : GREATER, a, b);
    }

    public int level(int a, int what) {
        if (!levels.has(a)) {
            return NONE;
        }
        return levels.detail(a, what);
    }

    public int put(int a, int p, int by)
            throws IndexOutOfBoundsException, IllegalArgumentException, IllegalStateException {
        checkLevel(a);
        checkParameter(p);
        checkLevel(by);
        return replacement.replaced(a, p, by);
    }

    public int value(int a, long v) {
        if (!levels.has(a)) {
            return NONE;
        }
        return levels.valueFor(a, v);
    }

    public int part(int a, int region, int x) throws IndexOutOfBoundsException {
        checkLevel(a);
        if (region < 0 || region >= REGIONS) {
            throw new IndexOutOfBoundsException("no such region");
        }
        if (x == NONE) {
            return Parts.at(levels.partsIn(a, region), Parts.CONSTANT);
        }
        checkParameter(x);
        return Parts.at(levels.partsIn(a, region), x);
    }

    public boolean isAtMost(int a, int b) throws IndexOutOfBoundsException {
        checkLevel(a);
        checkLevel(b);
        return levels.firstRegionAbove(a, b) == NONE;
    }

    public boolean isSame(int a, int b) throws IndexOutOfBoundsException {
        checkLevel(a);
        checkLevel(b);
        return levels.haveSameParts(a, b);
    }

    public int least(int a) throws IndexOutOfBoundsException {
        checkLevel(a);
        return levels.leastLike(a);
    }

    public long above(int a, int b) throws IndexOutOfBoundsException {
        checkLevel(a);
        checkLevel(b);
        int region = levels.firstRegionAbove(a, b);
        if (region == NONE) {
            return NONE;
        }
        return Parts.pointAbove(levels.partsIn(a, region), levels.partsIn(b, region), region);
    }

    public int unknown() throws IllegalStateException {
        if (needs.unknowns() >= MOST_UNKNOWNS) {
            throw new IllegalStateException("there are 10 unknowns");
        }
        return needs.addUnknown();
    }

    public int need(int i, int k, int j)
            throws IndexOutOfBoundsException, IllegalArgumentException, IllegalStateException {
        if (!needs.isSide(i) || !needs.isSide(j)) {
            throw new IndexOutOfBoundsException("no such unknown");
        }
        if (k < -MOST_STEP || k > MOST_STEP) {
            throw new IllegalArgumentException("k is not in -20 .. 20");
        }
        if (needs.size() >= MOST_NEEDS) {
            throw new IllegalStateException("there are 30 needs");
        }
        return needs.add(i, k, j);
    }

    public boolean isSolved() {
        return needs.areSolved();
    }

    public int solution(int unknown) {
        return needs.leastNumber(unknown);
    }

    public boolean isClash(int need) {
        return needs.isInClash(need);
    }

    public boolean undo() {
        return needs.removeLatest();
    }

    public int about(int what) {
        switch (what) {
            case 0:
                return levels.size();
            case 1:
                return needs.unknowns();
            case 2:
                return needs.size();
            default:
                return NONE;
        }
    }

    private void checkLevel(int a) {
        if (!levels.has(a)) {
            throw new IndexOutOfBoundsException("no such level");
        }
    }

    private static void checkParameter(int p) {
        if (p < 0 || p >= PARAMETERS) {
            throw new IndexOutOfBoundsException("no such parameter");
        }
    }

    /**
     * The parts of a level in one region, six small numbers in one long: a level has them for 32
     * regions, and a new object is to stay small. A byte holds the number and 1, so that NONE is 0
     * and is the least in comparisons when it is read.
     */
    private static final class Parts {
        /** The place of c, behind the places of the parameters. */
        static final int CONSTANT = PARAMETERS;

        private static final int PLACE_BITS = 8;
        private static final int PLACE_MASK = (1 << PLACE_BITS) - 1;

        static int at(long parts, int place) {
            return (int) (parts >>> (place * PLACE_BITS) & PLACE_MASK) - 1;
        }

        static long only(int place, int number) {
            return (long) (number + 1) << (place * PLACE_BITS);
        }

        static long raised(long parts) {
            long raised = 0;
            for (int place = 0; place <= CONSTANT; place++) {
                int number = at(parts, place);
                if (number != NONE) {
                    raised |= only(place, number + 1);
                }
            }
            return raised;
        }

        static long joined(long a, long b) {
            long joined = 0;
            int greatest = NONE;
            for (int x = 0; x < PARAMETERS; x++) {
                int k = Math.max(at(a, x), at(b, x));
                joined |= only(x, k);
                greatest = Math.max(greatest, k);
            }
            int c = Math.max(at(a, CONSTANT), at(b, CONSTANT));
            // With no k at all c is the whole value, and may be 0.
            boolean stands = greatest == NONE || c > greatest + 1;
            return stands ? joined | only(CONSTANT, c) : joined;
        }

        /** In a region a level is 0 everywhere or nowhere, and c is 0 just where it is. */
        static boolean vanish(long parts) {
            return at(parts, CONSTANT) == 0;
        }

        static int valueAtOnes(long parts) {
            int value = at(parts, CONSTANT);
            for (int x = 0; x < PARAMETERS; x++) {
                value = Math.max(value, at(parts, x) + 1);
            }
            return value;
        }

        /** With this parameter growing alone a comes above b; the last such one, or NONE. */
        static int lastHigher(long a, long b) {
            for (int x = PARAMETERS - 1; x >= 0; x--) {
                if (at(a, x) > at(b, x)) {
                    return x;
                }
            }
            return NONE;
        }

        /** b is least where all parameters are 1, so a's c is never above b if it is not there. */
        static boolean areAtMost(long a, long b) {
            return lastHigher(a, b) == NONE && at(a, CONSTANT) <= valueAtOnes(b);
        }

        /**
         * The first point (parameter 0 counts first) of a region where a is above b; there must be
         * one. If it is not the one with 1 everywhere, then only a parameter whose part is higher in
         * a can bring a above b; the last one leaves all those ahead of it at 1. It must pass b's
         * value at the ones, which is 61 at most: so its number never comes near 200.
         */
        static long pointAbove(long a, long b, int region) {
            long ones = onesOf(region);
            int x = lastHigher(a, b);
            if (x == NONE || valueAtOnes(a) > valueAtOnes(b)) {
                return ones;
            }
            int number = valueAtOnes(b) - at(a, x) + 1;
            return ones + ((long) (number - 1) << (x * NUMBER_BITS));
        }

        private static long onesOf(int region) {
            long ones = 0;
            for (int x = 0; x < PARAMETERS; x++) {
                ones |= (long) (region >> x & 1) << (x * NUMBER_BITS);
            }
            return ones;
        }
    }

    /** All levels, each made once; what a level is made of always has lower numbers than itself. */
    private static final class Levels {
        private final int[] kinds = new int[MOST_LEVELS];
        private final int[] firsts = new int[MOST_LEVELS];
        private final int[] seconds = new int[MOST_LEVELS];
        private final int[] nexts = new int[MOST_LEVELS];
        private final int[] uses = new int[MOST_LEVELS];
        private final int[] values = new int[MOST_LEVELS];
        private final long[] parts = new long[MOST_LEVELS * REGIONS];
        private int count = 0;

        int size() {
            return count;
        }

        boolean has(int a) {
            return a >= 0 && a < count;
        }

        int detail(int a, int what) {
            switch (what) {
                case 0:
                    return kinds[a];
                case 1:
                    return firsts[a];
                case 2:
                    return seconds[a];
                default:
                    return NONE;
            }
        }

        boolean isParameter(int a, int p) {
            return kinds[a] == PARAMETER && firsts[a] == p;
        }

        boolean usesParameter(int a, int p) {
            return (uses[a] >> p & 1) != 0;
        }

        /** The level of this kind and these parts: the one that is there, or a new one. */
        int made(int kind, int first, int second) {
            int there = find(kind, first, second);
            if (there != NONE) {
                return there;
            }
            checkNew(kind, first);
            int n = count;
            kinds[n] = kind;
            firsts[n] = first;
            seconds[n] = second;
            nexts[n] = nextsOf(n);
            uses[n] = usesOf(n);
            for (int region = 0; region < REGIONS; region++) {
                parts[n * REGIONS + region] = partsOf(n, region);
            }
            count++;
            return n;
        }

        private int find(int kind, int first, int second) {
            for (int n = 0; n < count; n++) {
                if (kinds[n] == kind && firsts[n] == first && seconds[n] == second) {
                    return n;
                }
            }
            return NONE;
        }

        private void checkNew(int kind, int first) {
            if (kind == NEXT && nexts[first] >= MOST_NEXTS) {
                throw new IllegalArgumentException("more than 60 NEXTs in one another");
            }
            if (count >= MOST_LEVELS) {
                throw new IllegalStateException("there are 120 levels");
            }
        }

        private int nextsOf(int n) {
            switch (kinds[n]) {
                case NEXT:
                    return nexts[firsts[n]] + 1;
                case GREATER:
                case UNLESS:
                    return Math.max(nexts[firsts[n]], nexts[seconds[n]]);
                default:
                    return 0;
            }
        }

        private int usesOf(int n) {
            switch (kinds[n]) {
                case PARAMETER:
                    return 1 << firsts[n];
                case NEXT:
                    return uses[firsts[n]];
                case GREATER:
                case UNLESS:
                    return uses[firsts[n]] | uses[seconds[n]];
                default:
                    return 0;
            }
        }

        private long partsOf(int n, int region) {
            switch (kinds[n]) {
                case PARAMETER:
                    return Parts.only((region >> firsts[n] & 1) != 0 ? firsts[n] : Parts.CONSTANT, 0);
                case NEXT:
                    return Parts.raised(partsIn(firsts[n], region));
                case GREATER:
                    return Parts.joined(partsIn(firsts[n], region), partsIn(seconds[n], region));
                case UNLESS:
                    long right = partsIn(seconds[n], region);
                    return Parts.vanish(right) ? right : Parts.joined(partsIn(firsts[n], region), right);
                default:
                    return Parts.only(Parts.CONSTANT, 0);
            }
        }

        long partsIn(int a, int region) {
            return parts[a * REGIONS + region];
        }

        int valueFor(int a, long v) {
            for (int n = 0; n <= a; n++) {
                values[n] = valueOf(n, v);
            }
            return values[a];
        }

        private int valueOf(int n, long v) {
            switch (kinds[n]) {
                case PARAMETER:
                    return (int) (v >>> (firsts[n] * NUMBER_BITS)) & NUMBER_MASK;
                case NEXT:
                    return values[firsts[n]] + 1;
                case GREATER:
                    return Math.max(values[firsts[n]], values[seconds[n]]);
                case UNLESS:
                    int right = values[seconds[n]];
                    return right == 0 ? 0 : Math.max(values[firsts[n]], right);
                default:
                    return 0;
            }
        }

        int firstRegionAbove(int a, int b) {
            for (int region = 0; region < REGIONS; region++) {
                if (!Parts.areAtMost(partsIn(a, region), partsIn(b, region))) {
                    return region;
                }
            }
            return NONE;
        }

        /** Values tell the parts and parts tell the values: so levels are the same just if these are. */
        boolean haveSameParts(int a, int b) {
            for (int region = 0; region < REGIONS; region++) {
                if (partsIn(a, region) != partsIn(b, region)) {
                    return false;
                }
            }
            return true;
        }

        int leastLike(int a) {
            for (int n = 0; n < a; n++) {
                if (haveSameParts(n, a)) {
                    return n;
                }
            }
            return a;
        }
    }

    /**
     * Puts a level in the place of a parameter. Levels may stand 120 deep in one another and be used
     * many times over: so the walk keeps its own row of open levels, and each result once found.
     */
    private static final class Replacement {
        /** Each step opens a level or ends one, and each level is opened once at most. */
        private static final int MOST_WALK = 2 * MOST_LEVELS;

        private final Levels levels;
        private final int[] results = new int[MOST_LEVELS];
        private final int[] open = new int[MOST_LEVELS];

        Replacement(Levels levels) {
            this.levels = levels;
        }

        int replaced(int a, int p, int by) {
            for (int n = 0; n <= a; n++) {
                results[n] = resultAhead(n, p, by);
            }
            open[0] = a;
            int last = 0;
            for (int step = 0; step < MOST_WALK && results[a] == NONE; step++) {
                int n = open[last];
                int missing = missingPart(n);
                if (missing == NONE) {
                    results[n] = remade(n);
                    last--;
                } else {
                    last++;
                    open[last] = missing;
                }
            }
            return results[a];
        }

        private int resultAhead(int n, int p, int by) {
            if (!levels.usesParameter(n, p)) {
                return n;
            }
            return levels.isParameter(n, p) ? by : NONE;
        }

        /** The first one comes first: the numbers of new levels show the order. */
        private int missingPart(int n) {
            int first = levels.detail(n, 1);
            if (results[first] == NONE) {
                return first;
            }
            int second = levels.detail(n, 2);
            return second != NONE && results[second] == NONE ? second : NONE;
        }

        private int remade(int n) {
            int first = levels.detail(n, 1);
            int second = levels.detail(n, 2);
            return levels.made(levels.detail(n, 0), results[first], second == NONE ? NONE : results[second]);
        }
    }

    /** The unknowns and the needs; what follows from them is worked out when it is asked for. */
    private static final class Needs {
        /** The number 0 stands as one more unknown behind the others, which must not rise. */
        private static final int NOUGHT = MOST_UNKNOWNS;
        private static final int SIDES = MOST_UNKNOWNS + 1;

        private final int[] lows = new int[MOST_NEEDS];
        private final int[] steps = new int[MOST_NEEDS];
        private final int[] highs = new int[MOST_NEEDS];
        private final boolean[] kept = new boolean[MOST_NEEDS];
        private final int[] numbers = new int[SIDES];
        private int unknowns = 0;
        private int count = 0;
        private boolean solved = false;
        private boolean solvedIsKnown = false;
        private boolean clashIsKnown = false;

        int unknowns() {
            return unknowns;
        }

        int size() {
            return count;
        }

        boolean isSide(int i) {
            return i == NONE || isUnknown(i);
        }

        private boolean isUnknown(int i) {
            return i >= 0 && i < unknowns;
        }

        /** What is known stays so: no need can speak of the new one yet, and its number is 0. */
        int addUnknown() {
            unknowns++;
            return unknowns - 1;
        }

        int add(int i, int k, int j) {
            lows[count] = i == NONE ? NOUGHT : i;
            steps[count] = k;
            highs[count] = j == NONE ? NOUGHT : j;
            count++;
            forget();
            return count - 1;
        }

        boolean removeLatest() {
            if (count == 0) {
                return false;
            }
            count--;
            forget();
            return true;
        }

        private void forget() {
            solvedIsKnown = false;
            clashIsKnown = false;
        }

        boolean areSolved() {
            if (!solvedIsKnown) {
                keepAll();
                solved = canKeptBeSolved();
                solvedIsKnown = true;
            }
            return solved;
        }

        int leastNumber(int unknown) {
            return isUnknown(unknown) && areSolved() ? numbers[unknown] : NONE;
        }

        boolean isInClash(int need) {
            if (need < 0 || need >= count || areSolved()) {
                return false;
            }
            if (!clashIsKnown) {
                keepClashOnly();
                clashIsKnown = true;
            }
            return kept[need];
        }

        private void keepAll() {
            for (int n = 0; n < count; n++) {
                kept[n] = true;
            }
        }

        private void keepClashOnly() {
            for (int n = count - 1; n >= 0; n--) {
                kept[n] = false;
                kept[n] = canKeptBeSolved();
            }
        }

        /**
         * Raises the numbers from 0 as the kept needs force them to: what stands when none rises is
         * the least solution. A number is forced along a row of other sides at most, so what still
         * rises after one round for each side rises for ever.
         */
        private boolean canKeptBeSolved() {
            Arrays.fill(numbers, 0);
            for (int round = 0; round <= SIDES; round++) {
                if (!raiseNumbers()) {
                    return true;
                }
                if (numbers[NOUGHT] > 0) {
                    return false;
                }
            }
            return false;
        }

        private boolean raiseNumbers() {
            boolean raised = false;
            for (int n = 0; n < count; n++) {
                int forced = numbers[lows[n]] + steps[n];
                if (kept[n] && forced > numbers[highs[n]]) {
                    numbers[highs[n]] = forced;
                    raised = true;
                }
            }
            return raised;
        }
    }
}
