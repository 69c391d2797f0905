/** Runs of calls, all of one object, answered by the class and by the plain model; and whole ranges of what is asked. */
public final class ModelTest {
    private static final Due DUE = new Due();
    private static final int[] EDGES = {
        Integer.MIN_VALUE, Integer.MIN_VALUE + 1, -1000, -33, -1, 33, 64, 65, 1000, Integer.MAX_VALUE - 1,
        Integer.MAX_VALUE};
    private static long seed = 20261119;

    public static void main(String[] args) {
        for (int run = 0; run < 400; run++) {
            randomRun(run);
        }
        everyNumber();
        everySearch();
        everySmallRow();
        DUE.end();
    }

    private static int upTo(int bound) {
        seed = seed * 6364136223846793005L + 1442695040888963407L;
        return (int) ((seed >>> 33) % bound);
    }

    /** Mostly from 0 on below a bound, at times an edge. */
    private static int some(int bound) {
        return upTo(24) == 0 ? EDGES[upTo(EDGES.length)] : upTo(bound);
    }

    private static long someNumber(int n) {
        int kind = upTo(20);
        long top = n >= 1 && n <= 62 ? 1L << n : 1L;
        if (kind == 0) {
            return top;
        }
        if (kind == 1) {
            return top - 1;
        }
        if (kind == 2) {
            return -1 - upTo(3);
        }
        if (kind == 3) {
            return Long.MAX_VALUE - upTo(2) * Long.MAX_VALUE;
        }
        return ((long) upTo(1 << 16) << 16 | upTo(1 << 16)) & top - 1;
    }

    /** A run keeps to few lengths, so that rows of one length meet. */
    private static void randomRun(int run) {
        CancelRows x = new CancelRows();
        PlainModel m = new PlainModel();
        int longest = 1 + upTo(34);
        int dropping = 1 + upTo(4);
        // One round asks at most 11 calls, the end 54: an object is used for no more than 512.
        int start = DUE.asked();
        while (DUE.asked() - start < 440) {
            int kind = upTo(23 + dropping);
            if (kind < 14) {
                changing(kind, longest, x, m, run);
            } else if (kind < 23) {
                asking(kind, x, m, run);
            } else {
                DUE.due(run + ": drop()", x.drop(), m.drop());
            }
        }
        for (int r = -1; r < 25; r++) {
            DUE.due(run + ": number(" + r + ")", x.number(r), m.number(r));
            DUE.due(run + ": length(" + r + ")", x.length(r), m.length(r));
        }
        DUE.due(run + ": count(0)", x.count(0), m.count(0));
        DUE.due(run + ": count(1)", x.count(1), m.count(1));
    }

    private static void changing(int kind, int longest, CancelRows x, PlainModel m, int run) {
        int a = some(25);
        int b = some(25);
        int c = some(5);
        String with = "(" + a + ", " + b + ", " + c + ")";
        switch (kind) {
            case 0:
            case 1:
            case 2:
                int n = some(1 + longest);
                long number = someNumber(n);
                DUE.due(run + ": row(" + n + ", " + number + ")", x.row(n, number), m.row(n, number));
                break;
            case 3:
                DUE.due(run + ": turn" + with, x.turn(a, c), m.turn(a, c));
                break;
            case 4:
                DUE.due(run + ": put" + with, x.put(a, b), m.put(a, b));
                break;
            case 5:
                DUE.due(run + ": weave" + with, x.weave(a, b), m.weave(a, b));
                break;
            case 6:
                DUE.due(run + ": times" + with, x.times(a, b), m.times(a, b));
                break;
            case 7:
                DUE.due(run + ": doubled" + with, x.doubled(a, b), m.doubled(a, b));
                break;
            case 8:
                int told = some(34);
                DUE.due(run + ": told(" + told + ")", x.told(told), m.told(told));
                break;
            default:
                sheets(kind, x, m, run);
                break;
        }
    }

    private static void sheets(int kind, CancelRows x, PlainModel m, int run) {
        int k = upTo(12) == 0 ? some(6) : upTo(2);
        int lane = upTo(6) == 0 ? some(4) : k;
        int n = some(40) - upTo(2);
        int f = upTo(12) == 0 ? some(70) : upTo(3);
        if (kind == 9) {
            String call = run + ": sheet(" + k + ", " + lane + ", " + n + ")";
            DUE.due(call, x.sheet(k, lane, n), m.sheet(k, lane, n));
        } else if (kind < 12) {
            int[] values = {1, -1, 255, 257, 65535, 65537, 65536 + 255, 1 << 24 | 1};
            for (int i = f; i >= 0 && i < f + 10; i++) {
                int v = upTo(30) == 0 ? some(4) : values[upTo(upTo(3) == 0 ? values.length : 2)];
                DUE.due(run + ": lay(" + k + ", " + i + ", " + v + ")", x.lay(k, i, v), m.lay(k, i, v));
            }
            DUE.due(run + ": lay(" + k + ", " + n + ", 1)", x.lay(k, n, 1), m.lay(k, n, 1));
        } else {
            int many = upTo(3) == 0 ? some(34) : 1 + upTo(9);
            String call = run + ": draw(" + k + ", " + lane + ", " + f + ", " + many + ")";
            DUE.due(call, x.draw(k, lane, f, many), m.draw(k, lane, f, many));
        }
    }

    private static void asking(int kind, CancelRows x, PlainModel m, int run) {
        int a = some(25);
        int b = some(25);
        int k = some(34) - upTo(2);
        int what = some(6) - upTo(2);
        String with = "(" + a + ", " + b + " or " + k + " or " + what + ")";
        switch (kind) {
            case 14:
                DUE.due(run + ": place" + with, x.place(a, k), m.place(a, k));
                break;
            case 15:
                DUE.due(run + ": open" + with, x.open(a, k), m.open(a, k));
                break;
            case 16:
                DUE.due(run + ": round" + with, x.round(a, k), m.round(a, k));
                break;
            case 17:
            case 18:
                DUE.due(run + ": about" + with, x.about(a, what), m.about(a, what));
                break;
            case 19:
                DUE.due(run + ": least" + with, x.least(a), m.least(a));
                break;
            case 20:
                DUE.due(run + ": cancels" + with, x.cancels(a, b), m.cancels(a, b));
                break;
            case 21:
                int c = upTo(2) == 0 ? a : some(25);
                int d = upTo(2) == 0 ? b : some(25);
                DUE.due(run + ": four" + with, x.four(a, b, c, d), m.four(a, b, c, d));
                break;
            default:
                DUE.due(run + ": count" + with, x.count(what), m.count(what));
                break;
        }
    }

    private static void everyNumber() {
        PlainModel m = new PlainModel();
        for (int n = -2; n <= 1002; n++) {
            CancelRows x = new CancelRows();
            DUE.due("why(" + n + ")", x.why(n), m.why(n));
            for (int many = 0; many <= 5; many++) {
                DUE.due("squares(" + n + ", " + many + ")", x.squares(n, many), m.squares(n, many));
            }
        }
        for (int i = 0; i < 400; i++) {
            CancelRows x = new CancelRows();
            int n = i < 60 ? 999950 + i : upTo(1000001);
            DUE.due("why(" + n + ")", x.why(n), m.why(n));
            DUE.due("squares(" + n + ", 1)", x.squares(n, 1), m.squares(n, 1));
            DUE.due("squares(" + n + ", 2)", x.squares(n, 2), m.squares(n, 2));
        }
        for (int edge : EDGES) {
            CancelRows x = new CancelRows();
            DUE.due("why(" + edge + ")", x.why(edge), m.why(edge));
            DUE.due("squares(" + edge + ", 2)", x.squares(edge, 2), m.squares(edge, 2));
            DUE.due("squares(5, " + edge + ")", x.squares(5, edge), m.squares(5, edge));
        }
    }

    private static void everySearch() {
        PlainModel m = new PlainModel();
        for (int n = -1; n <= 16; n++) {
            CancelRows x = new CancelRows();
            for (int i = -1; i <= 7; i++) {
                DUE.due("pairs(" + n + ", " + i + ")", x.pairs(n, i), m.pairs(n, i));
                DUE.due("pair(" + n + ", " + i + ")", x.pair(n, i), m.pair(n, i));
                for (int way = -1; way <= 2; way++) {
                    String call = "best(" + n + ", " + way + ", " + i + ")";
                    DUE.due(call, x.best(n, way, i), m.best(n, way, i));
                }
            }
        }
        for (int edge : EDGES) {
            CancelRows x = new CancelRows();
            DUE.due("pairs(" + edge + ", 0)", x.pairs(edge, 0), m.pairs(edge, 0));
            DUE.due("pairs(4, " + edge + ")", x.pairs(4, edge), m.pairs(4, edge));
            DUE.due("pair(" + edge + ", 0)", x.pair(edge, 0), m.pair(edge, 0));
            DUE.due("pair(4, " + edge + ")", x.pair(4, edge), m.pair(4, edge));
            DUE.due("best(" + edge + ", 0, 0)", x.best(edge, 0, 0), m.best(edge, 0, 0));
            DUE.due("best(4, " + edge + ", 0)", x.best(4, edge, 0), m.best(4, edge, 0));
            DUE.due("best(4, 0, " + edge + ")", x.best(4, 0, edge), m.best(4, 0, edge));
        }
    }

    private static void everySmallRow() {
        for (int n = 1; n <= 9; n++) {
            for (long number = 0; number < 1L << n; number++) {
                CancelRows x = new CancelRows();
                PlainModel m = new PlainModel();
                String of = " of " + n + ", " + number;
                DUE.due("row" + of, x.row(n, number), m.row(n, number));
                for (int i = -1; i <= n; i++) {
                    DUE.due("place " + i + of, x.place(0, i), m.place(0, i));
                    DUE.due("open " + i + of, x.open(0, i), m.open(0, i));
                    DUE.due("round " + i + of, x.round(0, i), m.round(0, i));
                }
                for (int what = -1; what <= 5; what++) {
                    DUE.due("about " + what + of, x.about(0, what), m.about(0, what));
                }
                DUE.due("least" + of, x.least(0), m.least(0));
                for (int way = 0; way < 3; way++) {
                    DUE.due("turn " + way + of, x.turn(0, way), m.turn(0, way));
                    DUE.due("turned " + way + of, x.number(1 + way), m.number(1 + way));
                }
            }
        }
    }
}
