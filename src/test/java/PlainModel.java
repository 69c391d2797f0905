import java.util.ArrayDeque;
import java.util.ArrayList;
import java.util.Arrays;
import java.util.List;
import java.util.TreeMap;
import java.util.TreeSet;

/**
 * The document's words, place by place over arrays and with sets closed under the turns, and nothing in common
 * with the class that it is held against.
 */
final class PlainModel {
    private static final TreeMap<Integer, PairFacts> PAIRS = new TreeMap<>();
    private static final TreeMap<Integer, long[]> BEST = new TreeMap<>();

    private final List<int[]> rows = new ArrayList<>();
    private final Object[] sheets = new Object[4];

    static final class PairFacts {
        int many;
        final List<Long> leastCodes = new ArrayList<>();
        long leastCode = -4;
    }

    static int[] places(int n, long number) {
        int[] places = new int[n];
        for (int i = 0; i < n; i++) {
            places[i] = number / power(i) % 2 == 1 ? -1 : 1;
        }
        return places;
    }

    static long power(int i) {
        return i == 0 ? 1 : 2 * power(i - 1);
    }

    static long numberOf(int[] places) {
        long number = 0;
        for (int i = 0; i < places.length; i++) {
            number += places[i] == -1 ? power(i) : 0;
        }
        return number;
    }

    static int openSum(int[] p, int k) {
        int sum = 0;
        for (int i = 0; i + k < p.length; i++) {
            sum += p[i] * p[i + k];
        }
        return sum;
    }

    static int roundSum(int[] p, int k) {
        int sum = 0;
        for (int i = 0; i < p.length; i++) {
            sum += p[i] * p[(i + k) % p.length];
        }
        return sum;
    }

    static int[] turned(int[] p, int way) {
        int[] q = new int[p.length];
        for (int i = 0; i < p.length; i++) {
            q[i] = way == 0 ? p[p.length - 1 - i] : way == 1 || i % 2 == 1 ? -p[i] : p[i];
        }
        return q;
    }

    static TreeSet<Long> allTurned(int[] p) {
        TreeSet<Long> seen = new TreeSet<>();
        ArrayDeque<int[]> open = new ArrayDeque<>();
        open.add(p);
        seen.add(numberOf(p));
        while (!open.isEmpty()) {
            int[] next = open.remove();
            for (int way = 0; way < 3; way++) {
                int[] q = turned(next, way);
                if (seen.add(numberOf(q))) {
                    open.add(q);
                }
            }
        }
        return seen;
    }

    static int peak(int[] p) {
        int peak = 0;
        for (int k = 1; k < p.length; k++) {
            peak = Math.max(peak, Math.abs(openSum(p, k)));
        }
        return peak;
    }

    static int energy(int[] p) {
        int energy = 0;
        for (int k = 1; k < p.length; k++) {
            energy += openSum(p, k) * openSum(p, k);
        }
        return energy;
    }

    private boolean isRow(int r) {
        return r >= 0 && r < rows.size();
    }

    private int add(int[]... more) {
        if (rows.size() + more.length > 24 || more[0].length > 32) {
            return -3;
        }
        rows.addAll(Arrays.asList(more));
        return rows.size() - more.length;
    }

    int row(int n, long number) {
        if (n < 1 || n > 32 || number < 0 || number >= power(n)) {
            return -1;
        }
        return add(places(n, number));
    }

    int sheet(int k, int lane, int n) {
        if (k < 0 || k > 3 || lane < 0 || lane > 2 || n > 64) {
            return -1;
        }
        if (n < 0) {
            return -14;
        }
        sheets[k] = lane == 0 ? new byte[n] : lane == 1 ? new short[n] : new int[n];
        return 1;
    }

    private static int cells(Object sheet) {
        return java.lang.reflect.Array.getLength(sheet);
    }

    int lay(int k, int i, int v) {
        if (k < 0 || k > 3) {
            return -1;
        }
        if (sheets[k] == null) {
            return -11;
        }
        if (i < 0 || i >= cells(sheets[k])) {
            return -12;
        }
        if (sheets[k] instanceof byte[] b) {
            b[i] = (byte) v;
        } else if (sheets[k] instanceof short[] s) {
            s[i] = (short) v;
        } else if (sheets[k] instanceof int[] w) {
            w[i] = v;
        }
        return 1;
    }

    int draw(int k, int lane, int f, int n) {
        if (k < 0 || k > 3 || lane < 0 || lane > 2 || n < 1 || n > 32) {
            return -1;
        }
        if (sheets[k] == null) {
            return -11;
        }
        int own = sheets[k] instanceof byte[] ? 0 : sheets[k] instanceof short[] ? 1 : 2;
        if (own != lane) {
            return -13;
        }
        int[] drawn = new int[n];
        for (int i = 0; i < n; i++) {
            long at = (long) f + i;
            if (at < 0 || at >= cells(sheets[k])) {
                return -12;
            }
            drawn[i] = java.lang.reflect.Array.getInt(sheets[k], (int) at);
            if (drawn[i] != 1 && drawn[i] != -1) {
                return -20 - i;
            }
        }
        return add(drawn);
    }

    int drop() {
        if (rows.isEmpty()) {
            return -4;
        }
        rows.remove(rows.size() - 1);
        return rows.size();
    }

    int length(int r) {
        return isRow(r) ? rows.get(r).length : -1;
    }

    int place(int r, int i) {
        return isRow(r) && i >= 0 && i < rows.get(r).length ? rows.get(r)[i] : 0;
    }

    long number(int r) {
        return isRow(r) ? numberOf(rows.get(r)) : -1;
    }

    int open(int r, int k) {
        return isRow(r) && k >= 0 && k < rows.get(r).length ? openSum(rows.get(r), k) : 1000;
    }

    int round(int r, int k) {
        return isRow(r) && k >= 0 && k < rows.get(r).length ? roundSum(rows.get(r), k) : 1000;
    }

    int about(int r, int what) {
        if (!isRow(r) || what < 0 || what > 4) {
            return -1;
        }
        int[] p = rows.get(r);
        if (what < 2) {
            return what == 0 ? peak(p) : energy(p);
        }
        if (what == 2) {
            return Arrays.stream(p).sum();
        }
        if (what == 4) {
            return allTurned(p).size();
        }
        int unlike = 0;
        for (int i = 1; i < p.length; i++) {
            unlike += p[i] == p[i - 1] ? 0 : 1;
        }
        return unlike;
    }

    long least(int r) {
        return isRow(r) ? allTurned(rows.get(r)).first() : -1;
    }

    int turn(int r, int way) {
        return !isRow(r) || way < 0 || way > 2 ? -1 : add(turned(rows.get(r), way));
    }

    private static int[] behind(int[] a, int[] b, int signOfB) {
        int[] c = Arrays.copyOf(a, a.length + b.length);
        for (int i = 0; i < b.length; i++) {
            c[a.length + i] = signOfB * b[i];
        }
        return c;
    }

    int put(int a, int b) {
        return !isRow(a) || !isRow(b) ? -1 : add(behind(rows.get(a), rows.get(b), 1));
    }

    private boolean alikeLong(int... r) {
        for (int one : r) {
            if (!isRow(one) || rows.get(one).length != rows.get(r[0]).length) {
                return false;
            }
        }
        return true;
    }

    int weave(int a, int b) {
        if (!alikeLong(a, b)) {
            return -1;
        }
        int n = rows.get(a).length;
        int[] c = new int[2 * n];
        for (int i = 0; i < 2 * n; i++) {
            c[i] = rows.get(i % 2 == 0 ? a : b)[i / 2];
        }
        return add(c);
    }

    int times(int a, int b) {
        if (!isRow(a) || !isRow(b)) {
            return -1;
        }
        int[] p = rows.get(a);
        int[] q = rows.get(b);
        int[] c = new int[p.length * q.length];
        for (int i = 0; i < c.length; i++) {
            c[i] = p[i / q.length] * q[i % q.length];
        }
        return add(c);
    }

    int cancels(int a, int b) {
        return alikeLong(a, b) ? firstLeft(rows.get(a), rows.get(b)) : -1;
    }

    private static int firstLeft(int[] a, int[] b) {
        for (int k = 1; k < a.length; k++) {
            if (openSum(a, k) != -openSum(b, k)) {
                return k;
            }
        }
        return 0;
    }

    int four(int a, int b, int c, int d) {
        if (!alikeLong(a, b, c, d)) {
            return -1;
        }
        for (int k = 1; k < rows.get(a).length; k++) {
            int sum = 0;
            for (int r : new int[] {a, b, c, d}) {
                sum += roundSum(rows.get(r), k);
            }
            if (sum != 0) {
                return k;
            }
        }
        return 0;
    }

    int doubled(int a, int b) {
        if (!alikeLong(a, b)) {
            return -1;
        }
        int[] p = rows.get(a);
        return add(behind(p, rows.get(b), 1), behind(p, rows.get(b), -1));
    }

    private static int[] read(String signs) {
        return signs.chars().filter(c -> c != ' ').map(c -> c == '+' ? 1 : -1).toArray();
    }

    private static int[][] toldPair(int n) {
        if (n == 1) {
            return new int[][] {{1}, {1}};
        }
        if (n == 10) {
            return new int[][] {read("+ + - + - + - - + +"), read("+ + - + + + + + - -")};
        }
        if (n == 26) {
            return new int[][] {
                read("+ + + + - + + - - + - + - + - - + - + + + - - + + +"),
                read("+ + + + - + + - - + - + + + + + - + - - - + + - - -")};
        }
        int[][] half = toldPair(n / 2);
        return new int[][] {behind(half[0], half[1], 1), behind(half[0], half[1], -1)};
    }

    int told(int n) {
        if (n < 1 || n > 32) {
            return -1;
        }
        return List.of(1, 2, 4, 8, 16, 32, 10, 20, 26).contains(n) ? add(toldPair(n)) : -4;
    }

    int why(int n) {
        if (n < 1 || n > 1000000) {
            return -1;
        }
        if (n % 2 == 1 && n != 1) {
            return 1;
        }
        boolean isSum = false;
        for (int a = 0; a * a <= n; a++) {
            int b = (int) Math.round(Math.sqrt(n - a * a));
            isSum |= a * a + b * b == n;
        }
        if (!isSum) {
            return 2;
        }
        // Of what divides n, one with the rest 3 has a prime number with the rest 3.
        for (int d = 3; d <= n; d += 4) {
            if (n % d == 0) {
                return 3;
            }
        }
        return 0;
    }

    int squares(int n, int many) {
        if (many < 1 || many > 4 || n < 0 || n > (many < 3 ? 1000000 : 1000)) {
            return -1;
        }
        int ways = 0;
        for (int a = 0; a * a <= n; a++) {
            for (int b = 0; b <= (many > 1 ? a : 0) && a * a + b * b <= n; b++) {
                for (int c = 0; c <= (many > 2 ? b : 0) && a * a + b * b + c * c <= n; c++) {
                    for (int d = 0; d <= (many > 3 ? c : 0); d++) {
                        ways += a * a + b * b + c * c + d * d == n ? 1 : 0;
                    }
                }
            }
        }
        return ways;
    }

    private static TreeSet<Long> alike(int[] a, int[] b) {
        TreeSet<Long> seen = new TreeSet<>();
        ArrayDeque<int[][]> open = new ArrayDeque<>();
        open.add(new int[][] {a, b});
        seen.add(1000 * numberOf(a) + numberOf(b));
        while (!open.isEmpty()) {
            int[] p = open.peek()[0];
            int[] q = open.remove()[1];
            int[][][] next = {{q, p}, {turned(p, 0), q}, {p, turned(q, 0)}, {turned(p, 1), q}, {p, turned(q, 1)},
                {turned(p, 2), turned(q, 2)}};
            for (int[][] one : next) {
                if (seen.add(1000 * numberOf(one[0]) + numberOf(one[1]))) {
                    open.add(one);
                }
            }
        }
        return seen;
    }

    static PairFacts pairFacts(int n) {
        if (PAIRS.containsKey(n)) {
            return PAIRS.get(n);
        }
        PairFacts facts = new PairFacts();
        TreeSet<Long> done = new TreeSet<>();
        for (long a = 0; a < power(n); a++) {
            for (long b = 0; b < power(n); b++) {
                if (firstLeft(places(n, a), places(n, b)) != 0) {
                    continue;
                }
                if (facts.many == 0) {
                    facts.leastCode = 1000 * a + b;
                }
                facts.many++;
                if (!done.contains(1000 * a + b)) {
                    facts.leastCodes.add(1000 * a + b);
                    done.addAll(alike(places(n, a), places(n, b)));
                }
            }
        }
        PAIRS.put(n, facts);
        return facts;
    }

    int pairs(int n, int what) {
        if (n < 1 || n > 8 || what < 0 || what > 3) {
            return -1;
        }
        PairFacts facts = pairFacts(n);
        if (what < 2) {
            return what == 0 ? facts.many : facts.leastCodes.size();
        }
        return facts.many == 0 ? -4 : (int) (what == 2 ? facts.leastCode / 1000 : facts.leastCode % 1000);
    }

    int pair(int n, int i) {
        if (n < 1 || n > 8 || i < 0) {
            return -1;
        }
        PairFacts facts = pairFacts(n);
        return i < facts.leastCodes.size() ? facts.leastCodes.get(i).intValue() : -4;
    }

    private static long[] bestFacts(int n, int way) {
        int key = 2 * n + way;
        if (!BEST.containsKey(key)) {
            long value = Long.MAX_VALUE;
            TreeSet<Long> those = new TreeSet<>();
            for (long x = 0; x < power(n); x++) {
                int[] p = places(n, x);
                long found = way == 0 ? peak(p) : energy(p);
                if (found < value) {
                    value = found;
                    those.clear();
                }
                if (found == value) {
                    those.add(x);
                }
            }
            long least = those.first();
            long many = those.size();
            long kinds = 0;
            while (!those.isEmpty()) {
                those.removeAll(allTurned(places(n, those.first())));
                kinds++;
            }
            BEST.put(key, new long[] {value, least, many, kinds});
        }
        return BEST.get(key);
    }

    int best(int n, int way, int what) {
        if (n < 1 || n > 14 || way < 0 || way > 1 || what < 0 || what > 3) {
            return -1;
        }
        return (int) bestFacts(n, way)[what];
    }

    int count(int what) {
        if (what == 0) {
            return rows.size();
        }
        return what != 1 ? -1 : sheets[0] == null ? -4 : cells(sheets[0]);
    }
}
