/** The sentences on all pairs of a small length and on the best rows: promises 24 to 26. */
public final class SearchSentencesTest {
    private static final Sentences SAYS = new Sentences();
    private static final int LOWEST = Sentences.LOWEST, HIGHEST = Sentences.HIGHEST;
    private static final int BAD = Sentences.BAD, NONE = Sentences.NONE;
    private static final int[] WITHOUT_PAIRS = {3, 5, 6, 7};

    public static void main(String[] args) {
        pairs();
        pair();
        best();
        SAYS.end();
    }

    private static void pairs() {
        SAYS.test("24 a length (1 to 8): the ends", SearchSentencesTest::pairsEnds);
        SAYS.test("24 BAD: a length too small", SearchSentencesTest::pairsTooShort);
        SAYS.test("24 BAD: a length too large", SearchSentencesTest::pairsTooLong);
        SAYS.test("24 BAD: what", SearchSentencesTest::pairsNoSuchWhat);
        SAYS.test("24 0 how many: in order", SearchSentencesTest::pairsInOrder);
        SAYS.test("24 0 how many, 1 how many: none", SearchSentencesTest::noPairs);
        SAYS.test("24 1 no two of which are ALIKE", SearchSentencesTest::pairsUnlike);
        SAYS.test("24 2, 3 the least PAIR", SearchSentencesTest::leastPair);
        SAYS.test("24 less: that being the same, its second one's", SearchSentencesTest::leastBySecond);
        SAYS.test("24 NONE: there is none", SearchSentencesTest::noLeastPair);
        SAYS.test("24 to 26 the found are no ROWS", SearchSentencesTest::searchMakesNoRows);
    }

    private static void ofPairs(int n, int... due) {
        for (int what = 0; what < due.length; what++) {
            SAYS.due("pairs(" + n + ", " + what + ")", new CancelRows().pairs(n, what), due[what]);
        }
    }

    private static void pairsEnds() {
        ofPairs(1, 4, 1, 0, 0);
        ofPairs(8, 192, 5, 6, 53);
    }

    private static void pairsTooShort() {
        for (int n : new int[] {0, -1, -8, LOWEST}) {
            for (int what = 0; what < 4; what++) {
                int asked = what;
                SAYS.refusedAlways("pairs(" + n + ", " + what + ")", x -> x.pairs(n, asked), BAD);
            }
        }
    }

    private static void pairsTooLong() {
        for (int n : new int[] {9, 10, 16, 32, HIGHEST}) {
            for (int what = 0; what < 4; what++) {
                int asked = what;
                SAYS.refusedAlways("pairs(" + n + ", " + what + ")", x -> x.pairs(n, asked), BAD);
            }
        }
    }

    private static void pairsNoSuchWhat() {
        for (int what : new int[] {-1, 4, 5, LOWEST, HIGHEST}) {
            SAYS.refusedAlways("pairs(4, " + what + ")", x -> x.pairs(4, what), BAD);
            // BAD before NONE: of 3 there are none.
            SAYS.refusedAlways("pairs(3, " + what + ")", x -> x.pairs(3, what), BAD);
        }
    }

    private static void pairsInOrder() {
        ofPairs(1, 4);
        ofPairs(2, 8);
        ofPairs(4, 32);
        ofPairs(8, 192);
    }

    private static void noPairs() {
        for (int n : WITHOUT_PAIRS) {
            ofPairs(n, 0, 0);
        }
    }

    private static void pairsUnlike() {
        CancelRows x = new CancelRows();
        SAYS.due("pairs(1, 1)", x.pairs(1, 1), 1);
        SAYS.due("pairs(2, 1)", x.pairs(2, 1), 1);
        SAYS.due("pairs(4, 1)", x.pairs(4, 1), 1);
        SAYS.due("pairs(8, 1)", x.pairs(8, 1), 5);
    }

    private static void leastPair() {
        ofPairs(1, 4, 1, 0, 0);
        ofPairs(2, 8, 1, 0, 1);
        ofPairs(4, 32, 1, 1, 2);
        ofPairs(8, 192, 5, 6, 53);
    }

    private static void leastBySecond() {
        // 0 cancels with 1 and with 2 at length 2, 1 with 2 and with 4 at length 4.
        CancelRows x = new CancelRows();
        SAYS.due("pairs(2, 3)", x.pairs(2, 3), 1);
        SAYS.due("pairs(4, 3)", x.pairs(4, 3), 2);
        x.row(4, 1);
        x.row(4, 2);
        x.row(4, 4);
        SAYS.due("1 and 2 cancel", x.cancels(0, 1), 0);
        SAYS.due("1 and 4 cancel", x.cancels(0, 2), 0);
    }

    private static void noLeastPair() {
        for (int n : WITHOUT_PAIRS) {
            SAYS.refusedAlways("pairs(" + n + ", 2)", x -> x.pairs(n, 2), NONE);
            SAYS.refusedAlways("pairs(" + n + ", 3)", x -> x.pairs(n, 3), NONE);
        }
    }

    private static void searchMakesNoRows() {
        CancelRows x = State.NONE_LEFT.made();
        SAYS.due("pairs(8, 2)", x.pairs(8, 2), 6);
        SAYS.due("pair(8, 0)", x.pair(8, 0), 6053);
        SAYS.due("best(14, 0, 1)", x.best(14, 0, 1), 202);
        SAYS.holds("all is as before", Shown.of(x).equals(Shown.of(State.NONE_LEFT.made())));
    }

    private static void pair() {
        SAYS.test("25 a length (1 to 8): the ends", SearchSentencesTest::pairEnds);
        SAYS.test("25 BAD: n too small", SearchSentencesTest::pairTooShort);
        SAYS.test("25 BAD: n too large", SearchSentencesTest::pairTooLong);
        SAYS.test("25 BAD: i below 0", SearchSentencesTest::pairBelow);
        SAYS.test("25 from 0 on, the less ahead", SearchSentencesTest::pairsLessAhead);
        SAYS.test("25 NONE: behind the last", SearchSentencesTest::pairBehindLast);
        SAYS.test("25 NONE: of a length without PAIRS", SearchSentencesTest::pairOfNone);
        SAYS.test("25 less than all others that are ALIKE", SearchSentencesTest::pairIsLeast);
    }

    private static void pairEnds() {
        CancelRows x = new CancelRows();
        SAYS.due("pair(1, 0)", x.pair(1, 0), 0);
        SAYS.due("pair(8, 0)", x.pair(8, 0), 6053);
    }

    private static void pairTooShort() {
        for (int n : new int[] {0, -1, -8, LOWEST}) {
            SAYS.refusedAlways("pair(" + n + ", 0)", x -> x.pair(n, 0), BAD);
        }
    }

    private static void pairTooLong() {
        for (int n : new int[] {9, 10, 16, HIGHEST}) {
            SAYS.refusedAlways("pair(" + n + ", 0)", x -> x.pair(n, 0), BAD);
            // BAD before NONE: there is no such i either.
            SAYS.refusedAlways("pair(" + n + ", highest)", x -> x.pair(n, HIGHEST), BAD);
        }
    }

    private static void pairBelow() {
        for (int i : new int[] {-1, -2, LOWEST}) {
            SAYS.refusedAlways("pair(8, " + i + ")", x -> x.pair(8, i), BAD);
            // BAD before NONE: of 3 there are none.
            SAYS.refusedAlways("pair(3, " + i + ")", x -> x.pair(3, i), BAD);
        }
    }

    private static void pairsLessAhead() {
        int[] due = {6053, 9058, 18029, 20027, 33046};
        CancelRows x = new CancelRows();
        for (int i = due.length - 1; i >= 0; i--) {
            SAYS.due("pair(8, " + i + ")", x.pair(8, i), due[i]);
        }
        SAYS.due("pair(2, 0)", x.pair(2, 0), 1);
        SAYS.due("pair(4, 0)", x.pair(4, 0), 1002);
    }

    private static void pairBehindLast() {
        for (int n : new int[] {1, 2, 4}) {
            SAYS.refusedAlways("pair(" + n + ", 1)", x -> x.pair(n, 1), NONE);
        }
        for (int i : new int[] {5, 6, 192, HIGHEST}) {
            SAYS.refusedAlways("pair(8, " + i + ")", x -> x.pair(8, i), NONE);
        }
    }

    private static void pairOfNone() {
        for (int n : WITHOUT_PAIRS) {
            SAYS.refusedAlways("pair(" + n + ", 0)", x -> x.pair(n, 0), NONE);
            SAYS.refusedAlways("pair(" + n + ", highest)", x -> x.pair(n, HIGHEST), NONE);
        }
    }

    private static void pairIsLeast() {
        for (int i = 0; i < 5; i++) {
            CancelRows x = new CancelRows();
            int code = x.pair(8, i);
            x.row(8, code / 1000);
            x.row(8, code % 1000);
            SAYS.due("pair " + i + " cancels", x.cancels(0, 1), 0);
            SAYS.holds("pair " + i + ": the less ROW is the first", x.number(0) <= x.number(1));
            SAYS.due("pair " + i + ": the first is its least TURNED", x.least(0), x.number(0));
        }
    }

    private static void best() {
        SAYS.test("26 a length (1 to 14): 1 PLACE", SearchSentencesTest::bestShortest);
        SAYS.test("26 a length (1 to 14): 2 PLACES", SearchSentencesTest::bestOfTwo);
        SAYS.test("26 a length (1 to 14): 14 PLACES", SearchSentencesTest::bestLongest);
        SAYS.test("26 BAD: a length too small", SearchSentencesTest::bestTooShort);
        SAYS.test("26 BAD: a length too large", SearchSentencesTest::bestTooLong);
        SAYS.test("26 BAD: way", SearchSentencesTest::bestNoSuchWay);
        SAYS.test("26 BAD: what", SearchSentencesTest::bestNoSuchWhat);
        SAYS.test("26 way 0: the least PEAK", SearchSentencesTest::bestByPeak);
        SAYS.test("26 way 1: the least ENERGY", SearchSentencesTest::bestByEnergy);
        SAYS.test("26 in any order of calls", SearchSentencesTest::bestInAnyOrder);
    }

    private static void ofBest(int n, int way, int... due) {
        for (int what = 0; what < due.length; what++) {
            SAYS.due("best(" + n + ", " + way + ", " + what + ")", new CancelRows().best(n, way, what), due[what]);
        }
    }

    private static void bestShortest() {
        ofBest(1, 0, 0, 0, 2, 1);
        ofBest(1, 1, 0, 0, 2, 1);
    }

    private static void bestOfTwo() {
        ofBest(2, 0, 1, 0, 4, 1);
        ofBest(2, 1, 1, 0, 4, 1);
    }

    private static void bestLongest() {
        ofBest(14, 0, 2, 202, 72, 9);
        ofBest(14, 1, 19, 202, 72, 9);
    }

    private static void bestTooShort() {
        for (int n : new int[] {0, -1, -14, LOWEST}) {
            SAYS.refusedAlways("best(" + n + ", 0, 0)", x -> x.best(n, 0, 0), BAD);
            SAYS.refusedAlways("best(" + n + ", 1, 3)", x -> x.best(n, 1, 3), BAD);
        }
    }

    private static void bestTooLong() {
        for (int n : new int[] {15, 16, 32, HIGHEST}) {
            SAYS.refusedAlways("best(" + n + ", 0, 0)", x -> x.best(n, 0, 0), BAD);
            SAYS.refusedAlways("best(" + n + ", 1, 3)", x -> x.best(n, 1, 3), BAD);
        }
    }

    private static void bestNoSuchWay() {
        for (int way : new int[] {-1, 2, 3, LOWEST, HIGHEST}) {
            SAYS.refusedAlways("best(4, " + way + ", 0)", x -> x.best(4, way, 0), BAD);
        }
    }

    private static void bestNoSuchWhat() {
        for (int what : new int[] {-1, 4, 5, LOWEST, HIGHEST}) {
            SAYS.refusedAlways("best(4, 0, " + what + ")", x -> x.best(4, 0, what), BAD);
            SAYS.refusedAlways("best(4, 1, " + what + ")", x -> x.best(4, 1, what), BAD);
        }
    }

    private static void bestByPeak() {
        ofBest(3, 0, 1, 1, 4, 1);
        ofBest(4, 0, 1, 1, 8, 1);
        ofBest(6, 0, 2, 2, 28, 4);
        ofBest(8, 0, 2, 11, 64, 8);
        ofBest(12, 0, 2, 83, 128, 16);
        ofBest(13, 0, 1, 202, 4, 1);
    }

    private static void bestByEnergy() {
        ofBest(4, 1, 2, 1, 8, 1);
        ofBest(6, 1, 7, 2, 28, 4);
        ofBest(7, 1, 3, 13, 4, 1);
        ofBest(8, 1, 8, 13, 16, 2);
        ofBest(12, 1, 10, 101, 16, 2);
        ofBest(13, 1, 6, 202, 4, 1);
    }

    private static void bestInAnyOrder() {
        CancelRows x = new CancelRows();
        SAYS.due("best(8, 1, 3)", x.best(8, 1, 3), 2);
        SAYS.due("best(8, 0, 3)", x.best(8, 0, 3), 8);
        SAYS.due("best(8, 1, 0)", x.best(8, 1, 0), 8);
        SAYS.due("best(9, 1, 0)", x.best(9, 1, 0), 12);
        SAYS.due("best(8, 0, 0)", x.best(8, 0, 0), 2);
        SAYS.due("best(8, 2, 0)", x.best(8, 2, 0), BAD);
        SAYS.due("best(8, 1, 3) again", x.best(8, 1, 3), 2);
    }
}
