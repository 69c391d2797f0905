import java.util.ArrayList;

/**
 * Rows of ones and less ones, their sums with themselves shifted, and the pairs of them whose sums cancel.
 * A row is kept as its NUMBER, one bit a place, so that a whole sum is one count of bits.
 */
public final class CancelRows {
    public static final int BAD = -1, STATE = -2, FULL = -3, NONE = -4;

    private static final int MOST_ROWS = 24;
    private static final int MOST_PLACES = 32;
    private static final int MOST_CELLS = 64;
    private static final int SHEETS = 4;
    private static final int LANES = 3;
    private static final int NO_SUM = 1000;

    private static final int FAULT = -10;
    private static final int NULL = 1, INDEX = 2, CAST = 3, SIZE = 4;
    private static final int NO_SIGN = -20;

    private static final int MOST_TOLD = 32;
    private static final int MOST_NUMBER = 1000000;
    private static final int MOST_NUMBER_OF_MANY = 1000;
    private static final int MOST_PAIRED = 8;
    private static final int MOST_BEST = 14;

    private final int[] lengths;
    private final long[] numbers;
    private final Sheet[] sheets;
    // What a length's search finds never changes, so each is made once an object and used again.
    private final PairList[] pairLists;
    private final BestRows[] bestByPeak;
    private final BestRows[] bestByEnergy;
    private int rows;

    public CancelRows() {
        lengths = new int[MOST_ROWS];
        numbers = new long[MOST_ROWS];
        sheets = new Sheet[SHEETS];
        pairLists = new PairList[MOST_PAIRED + 1];
        bestByPeak = new BestRows[MOST_BEST + 1];
        bestByEnergy = new BestRows[MOST_BEST + 1];
        rows = 0;
    }

    public int row(int length, long number) {
        if (!within(length, 1, MOST_PLACES) || number < 0 || number > Signs.mask(length)) {
            return BAD;
        }
        return fits(length, 1) ? added(length, number) : FULL;
    }

    public int sheet(int k, int lane, int n) {
        if (!isSheet(k) || !isLane(lane) || n > MOST_CELLS) {
            return BAD;
        }
        if (n < 0) {
            return FAULT - SIZE;
        }
        sheets[k] = new Sheet(lane, n);
        return 1;
    }

    public int lay(int k, int i, int v) {
        if (!isSheet(k)) {
            return BAD;
        }
        Sheet sheet = sheets[k];
        if (sheet == null) {
            return FAULT - NULL;
        }
        if (!sheet.has(i)) {
            return FAULT - INDEX;
        }
        sheet.write(i, v);
        return 1;
    }

    public int draw(int k, int lane, int f, int n) {
        if (!isSheet(k) || !isLane(lane) || !within(n, 1, MOST_PLACES)) {
            return BAD;
        }
        Sheet sheet = sheets[k];
        if (sheet == null) {
            return FAULT - NULL;
        }
        if (sheet.lane != lane) {
            return FAULT - CAST;
        }
        long drawn = 0;
        for (int i = 0; i < n; i++) {
            // f + i can't wrap round: an f so great is met as no cell at i = 0.
            if (!sheet.has(f + i)) {
                return FAULT - INDEX;
            }
            int cell = sheet.read(f + i);
            if (cell != 1 && cell != -1) {
                return NO_SIGN - i;
            }
            drawn |= cell < 0 ? 1L << i : 0L;
        }
        return fits(n, 1) ? added(n, drawn) : FULL;
    }

    public int drop() {
        if (rows == 0) {
            return NONE;
        }
        rows--;
        return rows;
    }

    public int length(int r) {
        return isRow(r) ? lengths[r] : BAD;
    }

    public int place(int r, int i) {
        return isRow(r) && within(i, 0, lengths[r] - 1) ? Signs.sign(numbers[r], i) : 0;
    }

    public long number(int r) {
        return isRow(r) ? numbers[r] : BAD;
    }

    public int open(int r, int k) {
        return isRow(r) && within(k, 0, lengths[r] - 1) ? Signs.openSum(numbers[r], lengths[r], k) : NO_SUM;
    }

    public int round(int r, int k) {
        return isRow(r) && within(k, 0, lengths[r] - 1) ? Signs.roundSum(numbers[r], lengths[r], k) : NO_SUM;
    }

    public int about(int r, int what) {
        if (!isRow(r)) {
            return BAD;
        }
        switch (what) {
            case 0:
                return Signs.peak(numbers[r], lengths[r]);
            case 1:
                return Signs.energy(numbers[r], lengths[r]);
            case 2:
                return Signs.total(numbers[r], lengths[r]);
            case 3:
                return Signs.changes(numbers[r], lengths[r]);
            case 4:
                return Signs.unlikeTurned(numbers[r], lengths[r]);
            default:
                return BAD;
        }
    }

    public long least(int r) {
        return isRow(r) ? Signs.leastTurned(numbers[r], lengths[r]) : BAD;
    }

    public int turn(int r, int way) {
        if (!isRow(r) || !within(way, 0, 2)) {
            return BAD;
        }
        int n = lengths[r];
        return fits(n, 1) ? added(n, Signs.turned(numbers[r], n, 1 << way)) : FULL;
    }

    public int put(int a, int b) {
        if (!isRow(a) || !isRow(b)) {
            return BAD;
        }
        int n = lengths[a] + lengths[b];
        return fits(n, 1) ? added(n, Signs.joined(numbers[a], lengths[a], numbers[b])) : FULL;
    }

    public int weave(int a, int b) {
        if (!areAlikeLong(a, b)) {
            return BAD;
        }
        int n = 2 * lengths[a];
        return fits(n, 1) ? added(n, Signs.woven(numbers[a], numbers[b], lengths[a])) : FULL;
    }

    public int times(int a, int b) {
        if (!isRow(a) || !isRow(b)) {
            return BAD;
        }
        int n = lengths[a] * lengths[b];
        return fits(n, 1) ? added(n, Signs.product(numbers[a], lengths[a], numbers[b], lengths[b])) : FULL;
    }

    public int cancels(int a, int b) {
        return areAlikeLong(a, b) ? Signs.firstLeftOpen(numbers[a], numbers[b], lengths[a]) : BAD;
    }

    public int four(int a, int b, int c, int d) {
        if (!areAlikeLong(a, b) || !areAlikeLong(b, c) || !areAlikeLong(c, d)) {
            return BAD;
        }
        int n = lengths[a];
        for (int k = 1; k < n; k++) {
            int first = Signs.roundSum(numbers[a], n, k) + Signs.roundSum(numbers[b], n, k);
            int second = Signs.roundSum(numbers[c], n, k) + Signs.roundSum(numbers[d], n, k);
            if (first + second != 0) {
                return k;
            }
        }
        return 0;
    }

    public int doubled(int a, int b) {
        if (!areAlikeLong(a, b)) {
            return BAD;
        }
        int n = lengths[a];
        if (!fits(2 * n, 2)) {
            return FULL;
        }
        int first = added(2 * n, Signs.joined(numbers[a], n, numbers[b]));
        added(2 * n, Signs.joined(numbers[a], n, Signs.opposite(numbers[b], n)));
        return first;
    }

    public int told(int n) {
        if (!within(n, 1, MOST_TOLD)) {
            return BAD;
        }
        int seed = ToldPairs.seedOf(n);
        if (seed == 0) {
            return NONE;
        }
        if (!fits(n, 2)) {
            return FULL;
        }
        long a = ToldPairs.firstOfSeed(seed);
        long b = ToldPairs.secondOfSeed(seed);
        for (int m = seed; m > 0 && m < n; m = 2 * m) {
            long longer = Signs.joined(a, m, b);
            b = Signs.joined(a, m, Signs.opposite(b, m));
            a = longer;
        }
        int first = added(n, a);
        added(n, b);
        return first;
    }

    public int why(int n) {
        if (!within(n, 1, MOST_NUMBER)) {
            return BAD;
        }
        if (n % 2 == 1 && n != 1) {
            return 1;
        }
        if (Squares.ways(n, 2) == 0) {
            return 2;
        }
        return Squares.hasPrimeOfRestThree(n) ? 3 : 0;
    }

    public int squares(int n, int many) {
        if (!within(many, 1, 4) || !within(n, 0, many <= 2 ? MOST_NUMBER : MOST_NUMBER_OF_MANY)) {
            return BAD;
        }
        return Squares.ways(n, many);
    }

    public int pairs(int n, int what) {
        if (!within(n, 1, MOST_PAIRED) || !within(what, 0, 3)) {
            return BAD;
        }
        PairList list = pairListOf(n);
        if (what == 0) {
            return list.many;
        }
        if (what == 1) {
            return list.kinds();
        }
        if (list.kinds() == 0) {
            return NONE;
        }
        return what == 2 ? list.codeAt(0) / PairList.CODE : list.codeAt(0) % PairList.CODE;
    }

    public int pair(int n, int i) {
        if (!within(n, 1, MOST_PAIRED) || i < 0) {
            return BAD;
        }
        PairList list = pairListOf(n);
        return i < list.kinds() ? list.codeAt(i) : NONE;
    }

    public int best(int n, int way, int what) {
        if (!within(n, 1, MOST_BEST) || !within(way, 0, 1)) {
            return BAD;
        }
        switch (what) {
            case 0:
                return bestRowsOf(n, way).value;
            case 1:
                return bestRowsOf(n, way).leastNumber;
            case 2:
                return bestRowsOf(n, way).many;
            case 3:
                return bestRowsOf(n, way).kinds;
            default:
                return BAD;
        }
    }

    public int count(int what) {
        if (!within(what, 0, 1)) {
            return BAD;
        }
        if (what == 0) {
            return rows;
        }
        Sheet sheet = sheets[0];
        return sheet == null ? NONE : sheet.size();
    }

    private static boolean within(int x, int from, int to) {
        return x >= from && x <= to;
    }

    private static boolean isSheet(int k) {
        return within(k, 0, SHEETS - 1);
    }

    private static boolean isLane(int lane) {
        return within(lane, 0, LANES - 1);
    }

    private boolean isRow(int r) {
        return within(r, 0, rows - 1);
    }

    private boolean areAlikeLong(int a, int b) {
        return isRow(a) && isRow(b) && lengths[a] == lengths[b];
    }

    private boolean fits(int length, int many) {
        return length <= MOST_PLACES && rows + many <= MOST_ROWS;
    }

    /** Tests nothing: fits has said that there is room. */
    private int added(int length, long number) {
        int r = rows;
        lengths[r] = length;
        numbers[r] = number;
        rows++;
        return r;
    }

    private PairList pairListOf(int n) {
        if (pairLists[n] == null) {
            pairLists[n] = new PairList(n);
        }
        return pairLists[n];
    }

    private BestRows bestRowsOf(int n, int way) {
        BestRows[] found = way == 0 ? bestByPeak : bestByEnergy;
        if (found[n] == null) {
            found[n] = new BestRows(n, way);
        }
        return found[n];
    }

    /** A row as its NUMBER x and its length n (1 to 32). */
    private static final class Signs {
        // A turn's bit is 1 shifted by its way in the document.
        static final int BACK = 1, SIGNS = 2, SECOND = 4;
        static final int WAYS = 8;
        private static final long ODD_PLACES = 0xAAAAAAAAL;

        static long mask(int n) {
            return (1L << n) - 1;
        }

        static int sign(long x, int i) {
            return (x >>> i & 1L) == 0L ? 1 : -1;
        }

        static int openSum(long x, int n, int k) {
            int products = n - k;
            return products - 2 * Long.bitCount((x ^ (x >>> k)) & mask(products));
        }

        static int roundSum(long x, int n, int k) {
            long shifted = ((x >>> k) | (x << (n - k))) & mask(n);
            return n - 2 * Long.bitCount(x ^ shifted);
        }

        static int peak(long x, int n) {
            int peak = 0;
            for (int k = 1; k < n; k++) {
                peak = Math.max(peak, Math.abs(openSum(x, n, k)));
            }
            return peak;
        }

        static int energy(long x, int n) {
            int energy = 0;
            for (int k = 1; k < n; k++) {
                int sum = openSum(x, n, k);
                energy += sum * sum;
            }
            return energy;
        }

        static int total(long x, int n) {
            return n - 2 * Long.bitCount(x);
        }

        static int changes(long x, int n) {
            return Long.bitCount((x ^ (x >>> 1)) & mask(n - 1));
        }

        static int firstLeftOpen(long a, long b, int n) {
            for (int k = 1; k < n; k++) {
                if (openSum(a, n, k) + openSum(b, n, k) != 0) {
                    return k;
                }
            }
            return 0;
        }

        static long reversed(long x, int n) {
            long reversed = 0;
            for (int i = 0; i < n; i++) {
                reversed = (reversed << 1) | (x >>> i & 1L);
            }
            return reversed;
        }

        static long opposite(long x, int n) {
            return x ^ mask(n);
        }

        /**
         * The ways 0 to 7 are all there are: each turn undoes itself, and where BACK and SECOND behind one
         * another differ from SECOND and BACK, they differ by SIGNS alone.
         */
        static long turned(long x, int n, int ways) {
            long y = (ways & BACK) != 0 ? reversed(x, n) : x;
            y = (ways & SIGNS) != 0 ? opposite(y, n) : y;
            return (ways & SECOND) != 0 ? y ^ (ODD_PLACES & mask(n)) : y;
        }

        static long leastTurned(long x, int n) {
            long least = x;
            for (int ways = 1; ways < WAYS; ways++) {
                least = Math.min(least, turned(x, n, ways));
            }
            return least;
        }

        static int unlikeTurned(long x, int n) {
            int unlike = 0;
            for (int ways = 0; ways < WAYS; ways++) {
                unlike += isNewTurned(x, n, ways) ? 1 : 0;
            }
            return unlike;
        }

        private static boolean isNewTurned(long x, int n, int ways) {
            long y = turned(x, n, ways);
            for (int earlier = 0; earlier < ways; earlier++) {
                if (turned(x, n, earlier) == y) {
                    return false;
                }
            }
            return true;
        }

        static long joined(long a, int lengthOfA, long b) {
            return a | (b << lengthOfA);
        }

        static long woven(long a, long b, int n) {
            long woven = 0;
            for (int i = 0; i < n; i++) {
                woven |= ((a >>> i & 1L) << (2 * i)) | ((b >>> i & 1L) << (2 * i + 1));
            }
            return woven;
        }

        static long product(long a, int lengthOfA, long b, int lengthOfB) {
            long product = 0;
            for (int i = 0; i < lengthOfA; i++) {
                long part = sign(a, i) == 1 ? b : opposite(b, lengthOfB);
                product |= part << (i * lengthOfB);
            }
            return product;
        }
    }

    /** A sheet of any lane: ints hold them all, and a value is cut to its lane when it is laid. */
    private static final class Sheet {
        private static final int BYTES = 0, SHORTS = 1;

        final int lane;
        private final int[] cells;

        Sheet(int lane, int n) {
            this.lane = lane;
            cells = new int[Math.max(n, 0)];
        }

        int size() {
            return cells.length;
        }

        boolean has(int i) {
            return i >= 0 && i < cells.length;
        }

        int read(int i) {
            return has(i) ? cells[i] : 0;
        }

        void write(int i, int v) {
            if (has(i)) {
                cells[i] = cut(v);
            }
        }

        private int cut(int v) {
            if (lane == BYTES) {
                return (byte) v;
            }
            return lane == SHORTS ? (short) v : v;
        }
    }

    /** The pairs from which the others of the TOLD LENGTHS are doubled. */
    private static final class ToldPairs {
        // Place 0 is the lowest bit: these read from the right to the left as the document tells them.
        private static final long TEN_FIRST = 0b0011010100L;
        private static final long TEN_SECOND = 0b1100000100L;
        private static final long TWENTY_SIX_FIRST = 0b00011000101101010110010000L;
        private static final long TWENTY_SIX_SECOND = 0b11100111010000010110010000L;

        /** The length from which the pair of n is doubled; 0, if n is no TOLD LENGTH. */
        static int seedOf(int n) {
            if (n == 26) {
                return 26;
            }
            if (n == 10 || n == 20) {
                return 10;
            }
            return Integer.bitCount(n) == 1 ? 1 : 0;
        }

        static long firstOfSeed(int seed) {
            if (seed == 26) {
                return TWENTY_SIX_FIRST;
            }
            return seed == 10 ? TEN_FIRST : 0L;
        }

        static long secondOfSeed(int seed) {
            if (seed == 26) {
                return TWENTY_SIX_SECOND;
            }
            return seed == 10 ? TEN_SECOND : 0L;
        }
    }

    /** Sums of squares and the primes of numbers up to a million. */
    private static final class Squares {
        /** The greatest number whose square is not above n (0 to 1000000). */
        static int rootOf(int n) {
            int root = 0;
            for (int bit = 512; bit > 0; bit = bit / 2) {
                if ((root + bit) * (root + bit) <= n) {
                    root += bit;
                }
            }
            return root;
        }

        /** How often n is a sum of many squares (1 to 4), the greater ones ahead. */
        static int ways(int n, int many) {
            return waysUpTo(rootOf(n), n, many);
        }

        /** Of those the ones with no root above most. The depth is many: it falls by one from call to call. */
        private static int waysUpTo(int most, int n, int many) {
            int root = rootOf(n);
            if (many <= 1) {
                return root <= most && root * root == n ? 1 : 0;
            }
            int ways = 0;
            for (int a = Math.min(most, root); a >= 0; a--) {
                ways += waysUpTo(a, n - a * a, many - 1);
            }
            return ways;
        }

        /**
         * Whether a prime number that divides n (from 1 on) has the rest 3 by 4. It has, if any divisor has:
         * without such a prime number, a divisor is even or has the rest 1.
         */
        static boolean hasPrimeOfRestThree(int n) {
            for (int d = 1; d <= n / d; d++) {
                if (n % d == 0 && (d % 4 == 3 || n / d % 4 == 3)) {
                    return true;
                }
            }
            return false;
        }
    }

    /** What there is of pairs of a length: how many, and of each kind of ALIKE ones the least. */
    private static final class PairList {
        /** A pair as one number: such numbers are in the order of the pairs, as a row's is below 256. */
        static final int CODE = 1000;
        private static final int ALIKE_BY_SIGNS = 4;

        int many;
        private final ArrayList<Integer> codes;

        PairList(int n) {
            many = 0;
            codes = new ArrayList<Integer>();
            // SIGNS of either makes four pairs of every one, the least of them with both last places 1.
            int searched = 1 << (n - 1);
            for (int a = 0; a < searched; a++) {
                for (int b = 0; b < searched; b++) {
                    if (Signs.firstLeftOpen(a, b, n) == 0) {
                        many += ALIKE_BY_SIGNS;
                        keepIfLeast(a, b, n);
                    }
                }
            }
        }

        int kinds() {
            return codes.size();
        }

        int codeAt(int i) {
            return i >= 0 && i < codes.size() ? codes.get(i) : 0;
        }

        private void keepIfLeast(int a, int b, int n) {
            int code = codeOf(a, b);
            for (int ways = 0; ways < Signs.WAYS; ways++) {
                for (int own = 0; own < Signs.SECOND; own++) {
                    // SECOND is of both, BACK and SIGNS are of each by itself.
                    long first = Signs.turned(a, n, ways);
                    long second = Signs.turned(b, n, (ways & Signs.SECOND) | own);
                    if (codeOf(first, second) < code || codeOf(second, first) < code) {
                        return;
                    }
                }
            }
            codes.add(code);
        }

        private static int codeOf(long first, long second) {
            return CODE * (int) first + (int) second;
        }
    }

    /** The rows of a length whose PEAK (way 0) or ENERGY (way 1) is the least. */
    private static final class BestRows {
        private static final int ABOVE_ALL = 1000000;

        int value;
        int leastNumber;
        int many;
        int kinds;

        BestRows(int n, int way) {
            value = ABOVE_ALL;
            // SIGNS and SECOND make alike rows of every row, the least of them with its last two places 1.
            int alike = n == 1 ? 2 : 4;
            int searched = (1 << n) / alike;
            for (int x = 0; x < searched; x++) {
                int found = way == 0 ? Signs.peak(x, n) : Signs.energy(x, n);
                if (found < value) {
                    value = found;
                    leastNumber = x;
                    many = 0;
                    kinds = 0;
                }
                if (found == value) {
                    many += alike;
                    kinds += Signs.leastTurned(x, n) == x ? 1 : 0;
                }
            }
        }
    }
}
