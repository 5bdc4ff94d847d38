/** Short ways to the objects that tests begin with. */
final class Make {
    /** 121 for the levels (one call asks how many there are), 10 for the unknowns, 30 for the needs. */
    static final int CALLS_FOR_FULL = 161;

    private Make() {
    }

    static int nexts(LevelRows x, int a, int times) {
        int last = a;
        for (int i = 0; i < times; i++) {
            last = x.next(last);
        }
        return last;
    }

    /** Levels made of the level a, each new, till there are so many in all. */
    static int fill(LevelRows x, int a, int levels) {
        int last = a;
        for (int n = x.about(0); n < levels; n++) {
            last = x.join(last, last, false);
        }
        return last;
    }

    /** Level 0 is parameter 0, and each other one GREATER of the one ahead of it with itself. */
    static LevelRows withLevels(int levels) {
        LevelRows x = new LevelRows();
        if (levels > 0) {
            fill(x, x.parameter(0), levels);
        }
        return x;
    }

    static LevelRows withUnknowns(int unknowns) {
        LevelRows x = new LevelRows();
        addUnknowns(x, unknowns);
        return x;
    }

    /** Needs that ask nothing: i - 20 <= i. */
    static LevelRows withNeeds(int unknowns, int needs) {
        LevelRows x = withUnknowns(unknowns);
        addNeeds(x, needs);
        return x;
    }

    static LevelRows full() {
        LevelRows x = withLevels(120);
        addUnknowns(x, 10);
        addNeeds(x, 30);
        return x;
    }

    private static void addUnknowns(LevelRows x, int unknowns) {
        for (int i = 0; i < unknowns; i++) {
            x.unknown();
        }
    }

    private static void addNeeds(LevelRows x, int needs) {
        for (int n = 0; n < needs; n++) {
            x.need(0, -20, 0);
        }
    }

    /** The numbers of the parameters, packed as value() takes them. */
    static long at(int... numbers) {
        return Reference.packed(numbers);
    }
}
