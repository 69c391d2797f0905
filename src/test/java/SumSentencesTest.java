/** The sentences on sums that cancel and on sums of squares: promises 18, 19, 22 and 23. */
public final class SumSentencesTest {
    private static final Sentences SAYS = new Sentences();
    private static final int LOWEST = Sentences.LOWEST, HIGHEST = Sentences.HIGHEST;
    private static final int BAD = Sentences.BAD;
    private static final int[] NO_ROWS = {-1, State.NO_ROW, 25, LOWEST, HIGHEST};

    public static void main(String[] args) {
        cancels();
        four();
        why();
        squares();
        SAYS.end();
    }

    private static void cancels() {
        SAYS.test("18 0: two CANCEL", SumSentencesTest::twoCancel);
        SAYS.test("18 for each k from 1 on: none of 1 PLACE", SumSentencesTest::twoOfOnePlace);
        SAYS.test("18 else the first k: 1", SumSentencesTest::twoFirstShift);
        SAYS.test("18 else the first k: the last, n - 1", SumSentencesTest::twoLastShift);
        SAYS.test("18 of 32 PLACES", SumSentencesTest::twoLongest);
        SAYS.test("18 BAD: also unlike lengths", SumSentencesTest::twoUnlike);
        SAYS.test("18 BAD: no such ROW", SumSentencesTest::twoBad);
    }

    private static void cancelOf(int length, long a, long b, int want) {
        CancelRows x = new CancelRows();
        x.row(length, a);
        x.row(length, b);
        String call = "cancels of " + length + ": " + a + ", " + b;
        SAYS.due(call, x.cancels(0, 1), want);
        SAYS.due(call + ", the other way", x.cancels(1, 0), want);
    }

    private static void twoCancel() {
        cancelOf(4, 8, 4, 0);
        cancelOf(4, 8, 2, 0);
        cancelOf(2, 0, 1, 0);
        cancelOf(10, 212, 772, 0);
        cancelOf(26, 6477200, 60622224, 0);
    }

    private static void twoOfOnePlace() {
        cancelOf(1, 0, 0, 0);
        cancelOf(1, 0, 1, 0);
        cancelOf(1, 1, 1, 0);
        CancelRows x = new CancelRows();
        x.row(1, 0);
        SAYS.due("with itself", x.cancels(0, 0), 0);
    }

    private static void twoFirstShift() {
        cancelOf(2, 0, 0, 1);
        cancelOf(4, 8, 8, 1);
        cancelOf(4, 4, 0, 1);
        CancelRows x = new CancelRows();
        x.row(4, 8);
        SAYS.due("with itself", x.cancels(0, 0), 1);
    }

    private static void twoLastShift() {
        cancelOf(3, 0, 2, 2);
        cancelOf(3, 5, 0, 2);
        cancelOf(2, 1, 2, 1);
    }

    private static void twoLongest() {
        cancelOf(32, 1195948104L, 3099048008L, 0);
        cancelOf(32, 0, 0xFFFFFFFFL, 1);
        cancelOf(32, 0, 0xAAAAAAAAL, 2);
    }

    private static void twoUnlike() {
        SAYS.refusedAlways("4 and 5", x -> x.cancels(State.OF_4, State.OF_5), BAD);
        SAYS.refusedAlways("5 and 4", x -> x.cancels(State.OF_5, State.OF_4), BAD);
        SAYS.refusedAlways("1 and 32", x -> x.cancels(State.OF_1, State.OF_32), BAD);
    }

    private static void twoBad() {
        for (int r : NO_ROWS) {
            SAYS.refusedAlways("cancels(" + r + ", 0)", x -> x.cancels(r, 0), BAD);
            SAYS.refusedAlways("cancels(0, " + r + ")", x -> x.cancels(0, r), BAD);
            SAYS.refusedAlways("cancels(" + r + ", " + r + ")", x -> x.cancels(r, r), BAD);
        }
        SAYS.due("behind the rows, first", State.SOME.made().cancels(State.KINDS, 0), BAD);
        SAYS.due("behind the rows, second", State.SOME.made().cancels(0, State.KINDS), BAD);
    }

    private static void four() {
        SAYS.test("19 0: four CANCEL", SumSentencesTest::fourCancel);
        SAYS.test("19 (from 1 on): none of 1 PLACE", SumSentencesTest::fourOfOnePlace);
        SAYS.test("19 else the first k: 1", SumSentencesTest::fourFirstShift);
        SAYS.test("19 else the first k: behind 1", SumSentencesTest::fourLaterShift);
        SAYS.test("19 of 32 PLACES", SumSentencesTest::fourLongest);
        SAYS.test("19 BAD likewise: unlike lengths", SumSentencesTest::fourUnlike);
        SAYS.test("19 BAD likewise: no such ROW", SumSentencesTest::fourBad);
    }

    private static void fourOf(int length, long[] numbers, int want) {
        CancelRows x = new CancelRows();
        for (long number : numbers) {
            x.row(length, number);
        }
        String call = "four of " + length + ", from " + numbers[0] + " to " + numbers[3];
        SAYS.due(call, x.four(0, 1, 2, 3), want);
        SAYS.due(call + ", the other way", x.four(3, 2, 1, 0), want);
        SAYS.due(call + ", among one another", x.four(0, 2, 1, 3), want);
    }

    private static void fourCancel() {
        fourOf(4, new long[] {8, 8, 8, 8}, 0);
        fourOf(4, new long[] {0, 5, 3, 3}, 0);
        fourOf(2, new long[] {0, 0, 1, 1}, 0);
        CancelRows x = new CancelRows();
        x.row(4, 8);
        SAYS.due("one row four times", x.four(0, 0, 0, 0), 0);
    }

    private static void fourOfOnePlace() {
        fourOf(1, new long[] {0, 0, 0, 0}, 0);
        fourOf(1, new long[] {0, 1, 0, 1}, 0);
        fourOf(1, new long[] {1, 1, 1, 1}, 0);
    }

    private static void fourFirstShift() {
        fourOf(2, new long[] {0, 0, 0, 0}, 1);
        fourOf(4, new long[] {0, 0, 5, 8}, 1);
        fourOf(4, new long[] {8, 8, 8, 0}, 1);
    }

    private static void fourLaterShift() {
        fourOf(4, new long[] {0, 5, 8, 8}, 2);
        fourOf(4, new long[] {3, 8, 8, 8}, 2);
    }

    private static void fourLongest() {
        fourOf(32, new long[] {1195948104L, 3099048008L, 1195948104L, 3099048008L}, 0);
        fourOf(32, new long[] {0, 0, 0, 0}, 1);
        fourOf(32, new long[] {0, 0xFFFFFFFFL, 0xAAAAAAAAL, 0x55555555L}, 2);
    }

    private static void fourUnlike() {
        int r = State.OF_4;
        int other = State.OF_5;
        SAYS.refusedAlways("the first", x -> x.four(other, r, r, r), BAD);
        SAYS.refusedAlways("the second", x -> x.four(r, other, r, r), BAD);
        SAYS.refusedAlways("the third", x -> x.four(r, r, other, r), BAD);
        SAYS.refusedAlways("the fourth", x -> x.four(r, r, r, other), BAD);
        SAYS.refusedAlways("two and two", x -> x.four(r, r, other, other), BAD);
        SAYS.refusedAlways("two and two, in turn", x -> x.four(r, other, r, other), BAD);
        SAYS.refusedAlways("two and two, inside", x -> x.four(r, other, other, r), BAD);
    }

    private static void fourBad() {
        for (int r : NO_ROWS) {
            SAYS.refusedAlways("four(" + r + ", 0, 0, 0)", x -> x.four(r, 0, 0, 0), BAD);
            SAYS.refusedAlways("four(0, " + r + ", 0, 0)", x -> x.four(0, r, 0, 0), BAD);
            SAYS.refusedAlways("four(0, 0, " + r + ", 0)", x -> x.four(0, 0, r, 0), BAD);
            SAYS.refusedAlways("four(0, 0, 0, " + r + ")", x -> x.four(0, 0, 0, r), BAD);
            SAYS.refusedAlways("four times " + r, x -> x.four(r, r, r, r), BAD);
        }
        SAYS.due("behind the rows", State.SOME.made().four(0, 0, 0, State.KINDS), BAD);
    }

    private static void why() {
        SAYS.test("22 a length (1 to 1000000)", SumSentencesTest::whyEnds);
        SAYS.test("22 BAD: too small", SumSentencesTest::whyTooSmall);
        SAYS.test("22 BAD: too large", SumSentencesTest::whyTooLarge);
        SAYS.test("22 1: n is odd, and not 1", SumSentencesTest::whyOdd);
        SAYS.test("22 2: n is no sum of two squares", SumSentencesTest::whyNoSum);
        SAYS.test("22 2: (0 is one, too)", SumSentencesTest::whySumWithNone);
        SAYS.test("22 3: a prime number with the rest 3 by 4", SumSentencesTest::whyPrime);
        SAYS.test("22 3: the least and the greatest of them", SumSentencesTest::whyPrimeEnds);
        SAYS.test("22 else 0", SumSentencesTest::whyNot);
        SAYS.test("22 the first that fits", SumSentencesTest::whyTheFirst);
    }

    private static void whyOf(int want, int... lengths) {
        CancelRows x = new CancelRows();
        for (int n : lengths) {
            SAYS.due("why(" + n + ")", x.why(n), want);
        }
    }

    private static void whyEnds() {
        whyOf(0, 1, 1000000);
        whyOf(1, 999999);
        whyOf(0, 2);
    }

    private static void whyTooSmall() {
        for (int n : new int[] {0, -1, -2, LOWEST}) {
            SAYS.refusedAlways("why(" + n + ")", x -> x.why(n), BAD);
        }
    }

    private static void whyTooLarge() {
        for (int n : new int[] {1000001, 1000002, 1 << 30, HIGHEST}) {
            SAYS.refusedAlways("why(" + n + ")", x -> x.why(n), BAD);
        }
    }

    private static void whyOdd() {
        whyOf(1, 3, 5, 13, 25, 999997);
        whyOf(0, 1);
    }

    private static void whyNoSum() {
        whyOf(2, 6, 12, 14, 22, 999998);
    }

    private static void whySumWithNone() {
        whyOf(0, 4, 16, 100, 1000000);
        whyOf(3, 36, 196, 998 * 998);
    }

    private static void whyPrime() {
        whyOf(3, 18, 36, 72, 90, 98, 242, 722, 882);
    }

    private static void whyPrimeEnds() {
        // Twice the square of a prime number: 3, 7 and 691 have the rest 3, 5 and 701 the rest 1.
        whyOf(3, 2 * 3 * 3, 2 * 7 * 7, 2 * 691 * 691);
        whyOf(0, 2 * 5 * 5, 2 * 701 * 701);
    }

    private static void whyNot() {
        whyOf(0, 2, 4, 8, 10, 16, 20, 26, 32, 34, 50, 58, 68, 100, 130, 706, 962 * 962);
    }

    private static void whyTheFirst() {
        // Odd, and also: no sum of two squares; one, with a prime number of rest 3.
        whyOf(1, 3, 7, 21, 9, 49);
        // No sum of two squares: each such has a prime number of rest 3.
        whyOf(2, 6, 24, 54);
    }

    private static void squares() {
        SAYS.test("23 a number (0 to 1000000), 1 or 2 squares", SumSentencesTest::fewSquaresEnds);
        SAYS.test("23 of 3, 4 squares 0 to 1000", SumSentencesTest::manySquaresEnds);
        SAYS.test("23 so many squares (1 to 4)", SumSentencesTest::oneToFour);
        SAYS.test("23 BAD: a number too small", SumSentencesTest::squaresTooSmall);
        SAYS.test("23 BAD: a number too large", SumSentencesTest::squaresTooLarge);
        SAYS.test("23 BAD: a number too large for 3 or 4", SumSentencesTest::squaresTooLargeForMany);
        SAYS.test("23 BAD: too few or too many squares", SumSentencesTest::squaresNoSuchMany);
        SAYS.test("23 (0 is one, too)", SumSentencesTest::squareOfNone);
        SAYS.test("23 the greater ones ahead: each way once", SumSentencesTest::waysOnce);
        SAYS.test("23 in no way", SumSentencesTest::noWay);
    }

    private static void ways(int n, int many, int want) {
        SAYS.due("squares(" + n + ", " + many + ")", new CancelRows().squares(n, many), want);
    }

    private static void fewSquaresEnds() {
        ways(0, 1, 1);
        ways(0, 2, 1);
        ways(1000000, 1, 1);
        ways(1000000, 2, 4);
        ways(999999, 1, 0);
        ways(1001, 1, 0);
        ways(1001, 2, 0);
    }

    private static void manySquaresEnds() {
        ways(0, 3, 1);
        ways(0, 4, 1);
        ways(1000, 3, 4);
        ways(1000, 4, 17);
    }

    private static void oneToFour() {
        int[] due = {0, 2, 3, 5};
        for (int many = 1; many <= 4; many++) {
            ways(50, many, due[many - 1]);
        }
    }

    private static void squaresTooSmall() {
        for (int many = 1; many <= 4; many++) {
            int asked = many;
            for (int n : new int[] {-1, -4, LOWEST}) {
                SAYS.refusedAlways("squares(" + n + ", " + many + ")", x -> x.squares(n, asked), BAD);
            }
        }
    }

    private static void squaresTooLarge() {
        for (int many = 1; many <= 4; many++) {
            int asked = many;
            for (int n : new int[] {1000001, 1002001, HIGHEST}) {
                SAYS.refusedAlways("squares(" + n + ", " + many + ")", x -> x.squares(n, asked), BAD);
            }
        }
    }

    private static void squaresTooLargeForMany() {
        for (int n : new int[] {1001, 1002, 1000000}) {
            SAYS.refusedAlways("squares(" + n + ", 3)", x -> x.squares(n, 3), BAD);
            SAYS.refusedAlways("squares(" + n + ", 4)", x -> x.squares(n, 4), BAD);
        }
    }

    private static void squaresNoSuchMany() {
        for (int many : new int[] {0, -1, 5, 6, LOWEST, HIGHEST}) {
            SAYS.refusedAlways("squares(0, " + many + ")", x -> x.squares(0, many), BAD);
            SAYS.refusedAlways("squares(25, " + many + ")", x -> x.squares(25, many), BAD);
        }
    }

    private static void squareOfNone() {
        ways(1, 4, 1);
        ways(9, 2, 1);
        ways(4, 3, 1);
        ways(25, 2, 2);
    }

    private static void waysOnce() {
        ways(2, 2, 1);
        ways(5, 2, 1);
        ways(50, 2, 2);
        ways(325, 2, 3);
        ways(325, 3, 5);
        ways(325, 4, 16);
    }

    private static void noWay() {
        ways(2, 1, 0);
        ways(3, 2, 0);
        ways(7, 3, 0);
        ways(7, 4, 1);
        ways(999999, 2, 0);
    }
}
