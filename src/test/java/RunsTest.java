import java.util.Random;

/** Promises 1 to 20: runs of 512 calls with seeded arguments, right and wrong, beside the Reference. */
final class RunsTest {
    private static final int CALLS = 512;
    private static final int[] FAR_OFF = {-2, -1, 5, 10, 30, 32, 120, 121, Check.LAST_INT, Check.FIRST_INT};

    private final Random random;
    private final LevelRows rows = new LevelRows();
    private final Reference reference;
    private final int parameters;
    private final int mostNexts;
    private final String name;
    private int calls = 0;

    private RunsTest(long seed, int[][] grid, int parameters, int mostNexts) {
        random = new Random(seed);
        reference = new Reference(grid);
        this.parameters = parameters;
        this.mostNexts = mostNexts;
        name = "run " + seed + " of " + parameters + ": ";
    }

    public static void main(String[] args) {
        int[][] wide = Reference.grid(5, 4);
        int[][] middle = Reference.grid(3, 12);
        int[][] deep = Reference.grid(2, 62);
        for (int seed = 0; seed < 200; seed++) {
            new RunsTest(seed, wide, 5, 2).run();
            new RunsTest(seed, middle, 3, 10).run();
            new RunsTest(seed, deep, 2, 60).run();
        }
        Check.end();
    }

    /** Some runs make most of their levels first, others ask all the while. */
    private void run() {
        int levelsFirst = random.nextInt(3);
        while (calls < CALLS) {
            boolean makes = random.nextInt(4) <= levelsFirst;
            if (random.nextInt(4) == 0) {
                callNeeds();
            } else if (makes && calls < 350) {
                makeLevel();
            } else {
                askLevels();
            }
        }
    }

    /** What an object answers after 512 calls is free: so there are no more. */
    private void due(String call, Check.Call got, Check.Call want) {
        if (calls < CALLS) {
            calls++;
            Check.dueText(name + "call " + calls + ", " + call, Check.told(got), Check.told(want));
        }
    }

    private int wrongOr(int number) {
        return random.nextInt(40) == 0 ? FAR_OFF[random.nextInt(FAR_OFF.length)] : number;
    }

    private int anyLevel() {
        int size = reference.about(0);
        if (size == 0) {
            return wrongOr(0);
        }
        int near = random.nextInt(2) == 0 ? Math.min(size, 6) : size;
        return wrongOr(size - 1 - random.nextInt(near));
    }

    private int anyParameter() {
        return wrongOr(random.nextInt(parameters));
    }

    /** Only parameters of the grid and NEXTs within it, so that the grid tells all there is. */
    private void makeLevel() {
        int a = anyLevel();
        int b = anyLevel();
        int p = anyParameter();
        boolean unless = random.nextBoolean();
        switch (random.nextInt(9)) {
            case 0:
                due("zero()", rows::zero, reference::zero);
                break;
            case 1:
            case 2:
                if (p < parameters || p > 4) {
                    due("parameter(" + p + ")", () -> rows.parameter(p), () -> reference.parameter(p));
                }
                break;
            case 3:
            case 4:
                makeNexts(a);
                break;
            case 5:
                if (reference.nexts(a) + reference.nexts(b) <= mostNexts || mostNexts == 60) {
                    String call = "put(" + a + ", " + p + ", " + b + ")";
                    due(call, () -> rows.put(a, p, b), () -> reference.put(a, p, b));
                }
                break;
            default:
                String call = "join(" + a + ", " + b + ", " + unless + ")";
                due(call, () -> rows.join(a, b, unless), () -> reference.join(a, b, unless));
        }
        due("about(0)", () -> rows.about(0), () -> reference.about(0));
    }

    private void makeNexts(int a) {
        int last = a;
        int times = mostNexts == 60 ? 1 + random.nextInt(8) : 1;
        for (int i = 0; i < times && (reference.nexts(last) < mostNexts || mostNexts == 60); i++) {
            int of = last;
            due("next(" + of + ")", () -> rows.next(of), () -> reference.next(of));
            last = reference.about(0) - 1;
        }
    }

    private void askLevels() {
        int a = anyLevel();
        int b = anyLevel();
        switch (random.nextInt(10)) {
            case 0:
                int what = wrongOr(random.nextInt(3));
                due("level(" + a + ", " + what + ")", () -> rows.level(a, what), () -> reference.level(a, what));
                break;
            case 1:
                long v = random.nextBoolean() ? random.nextLong() : random.nextLong() & random.nextLong() & 0x7007007007007L;
                due("value(" + a + ", " + v + ")", () -> rows.value(a, v), () -> reference.value(a, v));
                break;
            case 2:
                int region = wrongOr(random.nextInt(32));
                int x = wrongOr(random.nextInt(6) - 1);
                String call = "part(" + a + ", " + region + ", " + x + ")";
                due(call, () -> rows.part(a, region, x), () -> reference.part(a, region, x));
                break;
            case 3:
                due("isAtMost(" + a + ", " + b + ")", () -> rows.isAtMost(a, b) ? 1 : 0,
                        () -> reference.isAtMost(a, b) ? 1 : 0);
                break;
            case 4:
                due("isSame(" + a + ", " + b + ")", () -> rows.isSame(a, b) ? 1 : 0,
                        () -> reference.isSame(a, b) ? 1 : 0);
                break;
            case 5:
                due("least(" + a + ")", () -> rows.least(a), () -> reference.least(a));
                break;
            default:
                due("above(" + a + ", " + b + ")", () -> rows.above(a, b), () -> reference.above(a, b));
        }
    }

    private int anySide() {
        return wrongOr(random.nextInt(reference.about(1) + 1) - 1);
    }

    private void callNeeds() {
        int i = anySide();
        int j = anySide();
        int most = random.nextInt(8) == 0 ? 23 : 6;
        int k = random.nextInt(2 * most + 1) - most - 1;
        int number = wrongOr(random.nextInt(31) - 1);
        switch (random.nextInt(11)) {
            case 0:
                due("unknown()", rows::unknown, reference::unknown);
                break;
            case 1:
            case 2:
            case 3:
            case 4:
            case 5:
                due("need(" + i + ", " + k + ", " + j + ")", () -> rows.need(i, k, j), () -> reference.need(i, k, j));
                break;
            case 6:
                due("isSolved()", () -> rows.isSolved() ? 1 : 0, () -> reference.isSolved() ? 1 : 0);
                break;
            case 7:
                due("solution(" + i + ")", () -> rows.solution(i), () -> reference.solution(i));
                break;
            case 8:
                due("isClash(" + number + ")", () -> rows.isClash(number) ? 1 : 0,
                        () -> reference.isClash(number) ? 1 : 0);
                break;
            case 9:
                due("undo()", () -> rows.undo() ? 1 : 0, () -> reference.undo() ? 1 : 0);
                break;
            default:
                due("about(" + number + ")", () -> rows.about(number), () -> reference.about(number));
        }
    }
}
