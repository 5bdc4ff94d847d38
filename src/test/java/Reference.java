import java.util.ArrayList;
import java.util.Arrays;
import java.util.HashMap;
import java.util.List;
import java.util.Map;

/**
 * The document's words done the plainest way, for comparison: levels are compared by their values at
 * all points of a grid, parts are read off values at far points, needs are solved by longest ways.
 * The grid must reach two beyond the deepest row of NEXTs, in each parameter that is used.
 */
final class Reference {
    private static final int NONE = -1;
    private static final int FAR = 1000;

    private static final class Level {
        int kind;
        int first;
        int second;
        int nexts;
        int[] values;
    }

    private final int[][] points;
    private final List<Level> levels = new ArrayList<>();
    private final List<int[]> needs = new ArrayList<>();
    private int unknowns = 0;

    Reference(int[][] points) {
        this.points = points;
    }

    /** All points with numbers 0 .. most of the first parameters, by region, then parameter 0 first. */
    static int[][] grid(int parameters, int most) {
        List<int[]> all = new ArrayList<>();
        addPoints(all, new int[5], 0, parameters, most);
        all.sort((a, b) -> region(a) != region(b) ? region(a) - region(b) : Arrays.compare(a, b));
        return all.toArray(new int[0][]);
    }

    private static void addPoints(List<int[]> all, int[] point, int at, int parameters, int most) {
        if (at == parameters) {
            all.add(point.clone());
            return;
        }
        for (int number = 0; number <= most; number++) {
            point[at] = number;
            addPoints(all, point, at + 1, parameters, most);
        }
        point[at] = 0;
    }

    private static int region(int[] point) {
        int region = 0;
        for (int x = 0; x < 5; x++) {
            region |= point[x] > 0 ? 1 << x : 0;
        }
        return region;
    }

    static long packed(int... point) {
        long v = 0;
        for (int x = 0; x < point.length; x++) {
            v |= (long) point[x] << (12 * x);
        }
        return v;
    }

    private boolean has(int a) {
        return 0 <= a && a < levels.size();
    }

    private void wantLevel(int a) {
        if (!has(a)) {
            throw new IndexOutOfBoundsException();
        }
    }

    private void wantParameter(int p) {
        if (p < 0 || p > 4) {
            throw new IndexOutOfBoundsException();
        }
    }

    int nexts(int a) {
        return has(a) ? levels.get(a).nexts : 0;
    }

    private int make(int kind, int first, int second) {
        for (int n = 0; n < levels.size(); n++) {
            Level l = levels.get(n);
            if (l.kind == kind && l.first == first && l.second == second) {
                return n;
            }
        }
        Level l = new Level();
        l.kind = kind;
        l.first = first;
        l.second = second;
        l.nexts = kind < 2 ? 0 : kind == 2 ? nexts(first) + 1 : Math.max(nexts(first), nexts(second));
        if (l.nexts > 60) {
            throw new IllegalArgumentException();
        }
        if (levels.size() == 120) {
            throw new IllegalStateException();
        }
        l.values = new int[points.length];
        for (int i = 0; i < points.length; i++) {
            l.values[i] = kind == 0 ? 0 : kind == 1 ? points[i][first]
                    : valueOf(kind, levels.get(first).values[i], kind == 2 ? 0 : levels.get(second).values[i]);
        }
        levels.add(l);
        return levels.size() - 1;
    }

    private static int valueOf(int kind, int a, int b) {
        if (kind == 2) {
            return a + 1;
        }
        return kind == 4 && b == 0 ? 0 : Math.max(a, b);
    }

    int zero() {
        return make(0, NONE, NONE);
    }

    int parameter(int p) {
        wantParameter(p);
        return make(1, p, NONE);
    }

    int next(int a) {
        wantLevel(a);
        return make(2, a, NONE);
    }

    int join(int a, int b, boolean unless) {
        wantLevel(a);
        wantLevel(b);
        return make(unless ? 4 : 3, a, b);
    }

    int level(int a, int what) {
        if (!has(a)) {
            return NONE;
        }
        Level l = levels.get(a);
        return what == 0 ? l.kind : what == 1 ? l.first : what == 2 ? l.second : NONE;
    }

    int put(int a, int p, int by) {
        wantLevel(a);
        wantParameter(p);
        wantLevel(by);
        return put(a, p, by, new HashMap<>());
    }

    private int put(int a, int p, int by, Map<Integer, Integer> ready) {
        Level l = levels.get(a);
        if (l.kind == 0) {
            return a;
        }
        if (l.kind == 1) {
            return l.first == p ? by : a;
        }
        if (!ready.containsKey(a)) {
            int first = put(l.first, p, by, ready);
            int second = l.kind == 2 ? NONE : put(l.second, p, by, ready);
            boolean stays = first == l.first && second == l.second;
            ready.put(a, stays ? a : make(l.kind, first, second));
        }
        return ready.get(a);
    }

    int value(int a, long v) {
        return has(a) ? value(a, v, new HashMap<>()) : NONE;
    }

    private int value(int a, long v, Map<Integer, Integer> ready) {
        Level l = levels.get(a);
        if (l.kind == 0) {
            return 0;
        }
        if (l.kind == 1) {
            return (int) ((v >> (12 * l.first)) % 4096 + 4096) % 4096;
        }
        if (!ready.containsKey(a)) {
            int first = value(l.first, v, ready);
            ready.put(a, valueOf(l.kind, first, l.kind == 2 ? 0 : value(l.second, v, ready)));
        }
        return ready.get(a);
    }

    int part(int a, int region, int x) {
        wantLevel(a);
        if (region < 0 || region > 31 || x < NONE || x > 4) {
            throw new IndexOutOfBoundsException();
        }
        if (x != NONE) {
            return growth(a, region, x);
        }
        int c = value(a, packed(ones(region)));
        for (int y = 0; y < 5; y++) {
            int k = growth(a, region, y);
            if (k != NONE && c <= k + 1) {
                return NONE;
            }
        }
        return c;
    }

    private static int[] ones(int region) {
        int[] point = new int[5];
        for (int x = 0; x < 5; x++) {
            point[x] = region >> x & 1;
        }
        return point;
    }

    private int growth(int a, int region, int x) {
        int[] point = ones(region);
        if (point[x] == 0) {
            return NONE;
        }
        point[x] = FAR;
        int value = value(a, packed(point));
        return value >= FAR ? value - FAR : NONE;
    }

    boolean isAtMost(int a, int b) {
        return above(a, b) == NONE;
    }

    boolean isSame(int a, int b) {
        wantLevel(a);
        wantLevel(b);
        return Arrays.equals(levels.get(a).values, levels.get(b).values);
    }

    int least(int a) {
        wantLevel(a);
        int n = 0;
        while (!isSame(n, a)) {
            n++;
        }
        return n;
    }

    long above(int a, int b) {
        wantLevel(a);
        wantLevel(b);
        for (int i = 0; i < points.length; i++) {
            if (levels.get(a).values[i] > levels.get(b).values[i]) {
                return packed(points[i]);
            }
        }
        return NONE;
    }

    int unknown() {
        if (unknowns == 10) {
            throw new IllegalStateException();
        }
        return unknowns++;
    }

    int need(int i, int k, int j) {
        if (i < NONE || i >= unknowns || j < NONE || j >= unknowns) {
            throw new IndexOutOfBoundsException();
        }
        if (k < -20 || k > 20) {
            throw new IllegalArgumentException();
        }
        if (needs.size() == 30) {
            throw new IllegalStateException();
        }
        needs.add(new int[] {i, k, j});
        return needs.size() - 1;
    }

    /** The longest ways among 0 and the unknowns (at i + 1), or null if one comes back longer than 0. */
    private int[][] ways(List<int[]> some) {
        int none = -1_000_000;
        int[][] way = new int[11][11];
        for (int i = 0; i < 11; i++) {
            Arrays.fill(way[i], i == 0 ? 0 : none);
            way[i][i] = 0;
        }
        for (int[] need : some) {
            way[need[0] + 1][need[2] + 1] = Math.max(way[need[0] + 1][need[2] + 1], need[1]);
        }
        for (int m = 0; m < 11; m++) {
            for (int i = 0; i < 11; i++) {
                for (int j = 0; j < 11; j++) {
                    if (way[i][m] > none / 2 && way[m][j] > none / 2) {
                        way[i][j] = Math.min(100_000, Math.max(way[i][j], way[i][m] + way[m][j]));
                    }
                }
            }
        }
        for (int i = 0; i < 11; i++) {
            if (way[i][i] > 0) {
                return null;
            }
        }
        return way;
    }

    boolean isSolved() {
        return ways(needs) != null;
    }

    int solution(int unknown) {
        int[][] way = ways(needs);
        return way == null || unknown < 0 || unknown >= unknowns ? NONE : way[0][unknown + 1];
    }

    boolean isClash(int need) {
        if (need < 0 || need >= needs.size() || isSolved()) {
            return false;
        }
        List<int[]> left = new ArrayList<>(needs);
        for (int n = needs.size() - 1; n >= 0; n--) {
            List<int[]> without = new ArrayList<>(left);
            without.remove(needs.get(n));
            if (ways(without) == null) {
                left = without;
            }
        }
        return left.contains(needs.get(need));
    }

    boolean undo() {
        if (needs.isEmpty()) {
            return false;
        }
        needs.remove(needs.size() - 1);
        return true;
    }

    int about(int what) {
        return what == 0 ? levels.size() : what == 1 ? unknowns : what == 2 ? needs.size() : NONE;
    }
}
