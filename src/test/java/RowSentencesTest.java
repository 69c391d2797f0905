/** The sentences on rows and what is asked of one row: promises 2 and 7 to 13. */
public final class RowSentencesTest {
    private static final Sentences SAYS = new Sentences();
    private static final int LOWEST = Sentences.LOWEST, HIGHEST = Sentences.HIGHEST;
    private static final int BAD = Sentences.BAD, FULL = Sentences.FULL;
    private static final int NO_SUM = 1000;
    private static final int[] NO_ROWS = {-1, State.NO_ROW, 25, LOWEST, HIGHEST};

    public static void main(String[] args) {
        row();
        askedOfRow();
        sums();
        about();
        SAYS.test("13 the least NUMBER of its TURNED", RowSentencesTest::least);
        SAYS.test("13 (itself too)", RowSentencesTest::leastIsItself);
        SAYS.test("13 of 1 and of 32 PLACES", RowSentencesTest::leastOfEnds);
        SAYS.test("13 BAD -1L", RowSentencesTest::leastBad);
        SAYS.end();
    }

    private static void row() {
        SAYS.test("2 a ROW has 1 to 32 PLACES", RowSentencesTest::shortestAndLongest);
        SAYS.test("2 BAD: a length too small", RowSentencesTest::tooShort);
        SAYS.test("2 BAD: a length too large", RowSentencesTest::tooLong);
        SAYS.test("2 a NUMBER from 0", RowSentencesTest::lowestNumber);
        SAYS.test("2 to 2 to the length, less 1", RowSentencesTest::highestNumber);
        SAYS.test("2 BAD: a NUMBER too small", RowSentencesTest::numberTooLow);
        SAYS.test("2 BAD: a NUMBER too large", RowSentencesTest::numberTooHigh);
        SAYS.test("2 BAD: a NUMBER that an int does not hold", RowSentencesTest::numberAboveInt);
        SAYS.test("2 FULL", RowSentencesTest::full);
        SAYS.test("2 BAD before FULL", RowSentencesTest::badBeforeFull);
    }

    private static void shortestAndLongest() {
        CancelRows x = new CancelRows();
        SAYS.due("row(1, 1)", x.row(1, 1), 0);
        SAYS.row("row(1, 1)", x, 0, 1, 1);
        SAYS.due("row(32, 5)", x.row(32, 5), 1);
        SAYS.row("row(32, 5)", x, 1, 32, 5);
    }

    private static void tooShort() {
        for (int length : new int[] {0, -1, -32, LOWEST}) {
            SAYS.refusedAlways("row(" + length + ", 0)", x -> x.row(length, 0), BAD);
        }
    }

    private static void tooLong() {
        for (int length : new int[] {33, 34, 63, 64, 65, HIGHEST}) {
            SAYS.refusedAlways("row(" + length + ", 0)", x -> x.row(length, 0), BAD);
        }
    }

    private static void lowestNumber() {
        for (int length = 1; length <= 32; length++) {
            CancelRows x = new CancelRows();
            SAYS.due("row(" + length + ", 0)", x.row(length, 0), 0);
            SAYS.row("row(" + length + ", 0)", x, 0, length, 0);
            SAYS.due("its last PLACE", x.place(0, length - 1), 1);
        }
    }

    private static void highestNumber() {
        long highest = 1;
        for (int length = 1; length <= 32; length++) {
            CancelRows x = new CancelRows();
            SAYS.due("row(" + length + ", " + highest + ")", x.row(length, highest), 0);
            SAYS.row("row(" + length + ", " + highest + ")", x, 0, length, highest);
            SAYS.due("its last PLACE", x.place(0, length - 1), -1);
            highest = 2 * highest + 1;
        }
    }

    private static void numberTooLow() {
        for (long number : new long[] {-1, -2, Integer.MIN_VALUE, -4294967296L, Long.MIN_VALUE}) {
            SAYS.refusedAlways("row(5, " + number + ")", x -> x.row(5, number), BAD);
            SAYS.refusedAlways("row(32, " + number + ")", x -> x.row(32, number), BAD);
        }
    }

    private static void numberTooHigh() {
        long first = 2;
        for (int length = 1; length <= 32; length++) {
            int n = length;
            long tooHigh = first;
            SAYS.refusedAlways("row(" + n + ", " + tooHigh + ")", x -> x.row(n, tooHigh), BAD);
            first = 2 * first;
        }
        SAYS.refusedAlways("row(5, highest)", x -> x.row(5, Long.MAX_VALUE), BAD);
        SAYS.refusedAlways("row(32, highest)", x -> x.row(32, Long.MAX_VALUE), BAD);
    }

    private static void numberAboveInt() {
        for (long number : new long[] {4294967296L, 4294967297L, 8589934592L, 1L << 62}) {
            for (int length : new int[] {1, 5, 31, 32}) {
                String call = "row(" + length + ", " + number + ")";
                SAYS.refusedAlways(call, x -> x.row(length, number), BAD);
            }
        }
    }

    private static void full() {
        CancelRows x = State.ONE_LEFT.made();
        SAYS.due("the last", x.row(7, 100), 23);
        SAYS.row("the last", x, 23, 7, 100);
        SAYS.due("one more", x.row(7, 100), FULL);
        SAYS.refused(State.NONE_LEFT, "row(1, 0)", y -> y.row(1, 0), FULL);
        SAYS.refused(State.NONE_LEFT, "row(32, highest)", y -> y.row(32, 4294967295L), FULL);
    }

    private static void badBeforeFull() {
        SAYS.refused(State.NONE_LEFT, "row(0, 0)", x -> x.row(0, 0), BAD);
        SAYS.refused(State.NONE_LEFT, "row(33, 0)", x -> x.row(33, 0), BAD);
        SAYS.refused(State.NONE_LEFT, "row(4, 16)", x -> x.row(4, 16), BAD);
        SAYS.refused(State.NONE_LEFT, "row(4, -1)", x -> x.row(4, -1), BAD);
    }

    private static void askedOfRow() {
        SAYS.test("7 how long, from 1 to 32", RowSentencesTest::lengths);
        SAYS.test("7 BAD", RowSentencesTest::lengthBad);
        SAYS.test("8 PLACES are from 0 on", RowSentencesTest::firstPlace);
        SAYS.test("8 the last PLACE is the length less 1", RowSentencesTest::lastPlace);
        SAYS.test("8 0: no such PLACE, too small", RowSentencesTest::placeBelow);
        SAYS.test("8 0: no such PLACE, too large", RowSentencesTest::placeAbove);
        SAYS.test("8 0: no such ROW", RowSentencesTest::placeOfNoRow);
        SAYS.test("9 2 to the i for each PLACE i that is -1", RowSentencesTest::numberByPlaces);
        SAYS.test("9 BAD -1L", RowSentencesTest::numberBad);
    }

    private static void lengths() {
        for (int length = 1; length <= 32; length++) {
            CancelRows x = new CancelRows();
            x.row(length, 1);
            SAYS.due("length(0) of " + length, x.length(0), length);
        }
        SAYS.due("of the last of 24", State.NONE_LEFT.made().length(23), 4);
    }

    private static void lengthBad() {
        for (int r : NO_ROWS) {
            SAYS.refusedAlways("length(" + r + ")", x -> x.length(r), BAD);
        }
        SAYS.due("the first number behind the rows", State.SOME.made().length(State.KINDS), BAD);
        SAYS.due("the last number of none", State.ONE_LEFT.made().length(23), BAD);
    }

    private static void firstPlace() {
        CancelRows x = new CancelRows();
        x.row(1, 0);
        x.row(1, 1);
        x.row(32, 1);
        SAYS.due("place(0, 0)", x.place(0, 0), 1);
        SAYS.due("place(1, 0)", x.place(1, 0), -1);
        SAYS.due("place(2, 0)", x.place(2, 0), -1);
        SAYS.due("place(2, 1)", x.place(2, 1), 1);
    }

    private static void lastPlace() {
        CancelRows x = new CancelRows();
        x.row(32, 0x80000000L);
        x.row(4, 8);
        SAYS.due("place(0, 31)", x.place(0, 31), -1);
        SAYS.due("place(0, 30)", x.place(0, 30), 1);
        SAYS.due("place(1, 3)", x.place(1, 3), -1);
        SAYS.due("place(1, 2)", x.place(1, 2), 1);
    }

    private static void placeBelow() {
        for (int i : new int[] {-1, -32, -33, LOWEST}) {
            SAYS.refused(State.SOME, "place(of 32, " + i + ")", x -> x.place(State.OF_32, i), 0);
            SAYS.refused(State.SOME, "place(of 1, " + i + ")", x -> x.place(State.OF_1, i), 0);
        }
    }

    private static void placeAbove() {
        for (int i : new int[] {32, 33, 63, 64, 65, HIGHEST}) {
            SAYS.refused(State.SOME, "place(of 32, " + i + ")", x -> x.place(State.OF_32, i), 0);
        }
        SAYS.refused(State.SOME, "place(of 1, 1)", x -> x.place(State.OF_1, 1), 0);
        SAYS.refused(State.SOME, "place(of 4, 4)", x -> x.place(State.OF_4, 4), 0);
        SAYS.refused(State.SOME, "place(of 17, 17)", x -> x.place(State.OF_17, 17), 0);
    }

    private static void placeOfNoRow() {
        for (int r : NO_ROWS) {
            SAYS.refusedAlways("place(" + r + ", 0)", x -> x.place(r, 0), 0);
        }
        SAYS.due("the first number behind the rows", State.SOME.made().place(State.KINDS, 0), 0);
    }

    private static void numberByPlaces() {
        CancelRows x = new CancelRows();
        x.row(32, 0x80000001L);
        x.row(4, 8);
        x.row(1, 1);
        SAYS.due("number(0)", x.number(0), 2147483649L);
        SAYS.due("number(1)", x.number(1), 8);
        SAYS.due("number(2)", x.number(2), 1);
        SAYS.due("of the last of 24", State.NONE_LEFT.made().number(23), 4);
    }

    private static void numberBad() {
        for (int r : NO_ROWS) {
            SAYS.refusedAlways("number(" + r + ")", x -> x.number(r), BAD);
        }
        SAYS.due("the first number behind the rows", State.SOME.made().number(State.KINDS), BAD);
        SAYS.due("the last number of none", State.ONE_LEFT.made().number(23), BAD);
    }

    private static void sums() {
        SAYS.test("10 OPEN SUM 0: the length", RowSentencesTest::openOfNoShift);
        SAYS.test("10 OPEN SUM n - 1: first times last", RowSentencesTest::openOfLastShift);
        SAYS.test("10 i to n - 1 - k: not around", RowSentencesTest::openNotAround);
        SAYS.test("10 1000: k too small or too large", RowSentencesTest::openOfNoSuchShift);
        SAYS.test("10 1000: no such ROW", RowSentencesTest::openOfNoRow);
        SAYS.test("11 ROUND SUM 0: the length", RowSentencesTest::roundOfNoShift);
        SAYS.test("11 PLACE i + k modulo n: around", RowSentencesTest::roundAround);
        SAYS.test("11 around 32 PLACES", RowSentencesTest::roundOfLongest);
        SAYS.test("11 1000: k too small or too large", RowSentencesTest::roundOfNoSuchShift);
        SAYS.test("11 1000: no such ROW", RowSentencesTest::roundOfNoRow);
    }

    private static void openOfNoShift() {
        CancelRows x = State.SOME.made();
        SAYS.due("open(of 1, 0)", x.open(State.OF_1, 0), 1);
        SAYS.due("open(of 5, 0)", x.open(State.OF_5, 0), 5);
        SAYS.due("open(of 32, 0)", x.open(State.OF_32, 0), 32);
    }

    private static void openOfLastShift() {
        CancelRows x = new CancelRows();
        x.row(32, 0);
        x.row(32, 0x80000000L);
        x.row(32, 0x80000001L);
        x.row(2, 2);
        SAYS.due("open(0, 31)", x.open(0, 31), 1);
        SAYS.due("open(1, 31)", x.open(1, 31), -1);
        SAYS.due("open(2, 31)", x.open(2, 31), 1);
        SAYS.due("open(3, 1)", x.open(3, 1), -1);
    }

    private static void openNotAround() {
        CancelRows x = new CancelRows();
        x.row(5, 2);
        x.row(32, 0);
        x.row(32, 0xAAAAAAAAL);
        int[] due = {5, 0, 1, 0, 1};
        for (int k = 0; k < due.length; k++) {
            SAYS.due("open(0, " + k + ")", x.open(0, k), due[k]);
        }
        SAYS.due("open(1, 1)", x.open(1, 1), 31);
        SAYS.due("open(2, 1)", x.open(2, 1), -31);
        SAYS.due("open(2, 30)", x.open(2, 30), 2);
    }

    private static void openOfNoSuchShift() {
        for (int k : new int[] {-1, 32, 33, 64, LOWEST, HIGHEST}) {
            SAYS.refused(State.SOME, "open(of 32, " + k + ")", x -> x.open(State.OF_32, k), NO_SUM);
        }
        SAYS.refused(State.SOME, "open(of 1, 1)", x -> x.open(State.OF_1, 1), NO_SUM);
        SAYS.refused(State.SOME, "open(of 5, 5)", x -> x.open(State.OF_5, 5), NO_SUM);
        SAYS.refused(State.SOME, "open(of 5, -1)", x -> x.open(State.OF_5, -1), NO_SUM);
    }

    private static void openOfNoRow() {
        for (int r : NO_ROWS) {
            SAYS.refusedAlways("open(" + r + ", 0)", x -> x.open(r, 0), NO_SUM);
        }
        SAYS.due("the first number behind the rows", State.SOME.made().open(State.KINDS, 0), NO_SUM);
    }

    private static void roundOfNoShift() {
        CancelRows x = State.SOME.made();
        SAYS.due("round(of 1, 0)", x.round(State.OF_1, 0), 1);
        SAYS.due("round(of 5, 0)", x.round(State.OF_5, 0), 5);
        SAYS.due("round(of 32, 0)", x.round(State.OF_32, 0), 32);
    }

    private static void roundAround() {
        CancelRows x = new CancelRows();
        x.row(5, 16);
        x.row(2, 2);
        x.row(4, 8);
        for (int k = 1; k < 5; k++) {
            SAYS.due("round(0, " + k + ")", x.round(0, k), 1);
        }
        SAYS.due("round(1, 1)", x.round(1, 1), -2);
        for (int k = 1; k < 4; k++) {
            SAYS.due("round(2, " + k + ")", x.round(2, k), 0);
        }
    }

    private static void roundOfLongest() {
        CancelRows x = new CancelRows();
        x.row(32, 0);
        x.row(32, 0x80000000L);
        x.row(32, 0xAAAAAAAAL);
        for (int k = 1; k < 32; k++) {
            SAYS.due("round(0, " + k + ")", x.round(0, k), 32);
            SAYS.due("round(1, " + k + ")", x.round(1, k), 28);
            SAYS.due("round(2, " + k + ")", x.round(2, k), k % 2 == 0 ? 32 : -32);
        }
    }

    private static void roundOfNoSuchShift() {
        for (int k : new int[] {-1, 32, 33, 64, LOWEST, HIGHEST}) {
            SAYS.refused(State.SOME, "round(of 32, " + k + ")", x -> x.round(State.OF_32, k), NO_SUM);
        }
        SAYS.refused(State.SOME, "round(of 1, 1)", x -> x.round(State.OF_1, 1), NO_SUM);
        SAYS.refused(State.SOME, "round(of 5, 5)", x -> x.round(State.OF_5, 5), NO_SUM);
        SAYS.refused(State.SOME, "round(of 5, -1)", x -> x.round(State.OF_5, -1), NO_SUM);
    }

    private static void roundOfNoRow() {
        for (int r : NO_ROWS) {
            SAYS.refusedAlways("round(" + r + ", 0)", x -> x.round(r, 0), NO_SUM);
        }
        SAYS.due("the first number behind the rows", State.SOME.made().round(State.KINDS, 0), NO_SUM);
    }

    private static void about() {
        SAYS.test("12 0 its PEAK (0, if n is 1)", () -> aboutRow(1, 1, 0, 0));
        SAYS.test("12 0 of the OPEN SUMS from 1 on", RowSentencesTest::peakWithoutShift);
        SAYS.test("12 0 to n - 1", () -> aboutRow(3, 1, 0, 1));
        SAYS.test("12 0 without their signs", RowSentencesTest::peakWithoutSigns);
        SAYS.test("12 1 its ENERGY: none, if n is 1", () -> aboutRow(1, 0, 1, 0));
        SAYS.test("12 1 the greatest ENERGY", () -> aboutRow(32, 0, 1, 10416));
        SAYS.test("12 1 of the OPEN SUMS 1 to n - 1", RowSentencesTest::energyOfShifts);
        SAYS.test("12 2 the sum of its PLACES, from -32 to 32", RowSentencesTest::sumOfPlaces);
        SAYS.test("12 3 how many next to one another are unlike", RowSentencesTest::unlikeNeighbours);
        SAYS.test("12 4 how many unlike ROWS its TURNED are", RowSentencesTest::unlikeTurned);
        SAYS.test("12 BAD: what", RowSentencesTest::aboutBadWhat);
        SAYS.test("12 BAD: no such ROW", RowSentencesTest::aboutNoRow);
        SAYS.test("12 (of 2 a sum may be -1, too)", RowSentencesTest::sumOfLessOne);
    }

    private static void aboutRow(int length, long number, int what, int want) {
        CancelRows x = new CancelRows();
        x.row(length, number);
        SAYS.due("about " + what + " of row(" + length + ", " + number + ")", x.about(0, what), want);
    }

    private static void peakWithoutShift() {
        aboutRow(2, 0, 0, 1);
        aboutRow(5, 14, 0, 2);
        aboutRow(32, 0, 0, 31);
    }

    private static void peakWithoutSigns() {
        aboutRow(2, 1, 0, 1);
        aboutRow(32, 0xAAAAAAAAL, 0, 31);
        aboutRow(8, 72, 0, 3);
    }

    private static void energyOfShifts() {
        aboutRow(2, 0, 1, 1);
        aboutRow(3, 1, 1, 1);
        aboutRow(5, 14, 1, 6);
        aboutRow(8, 72, 1, 12);
        aboutRow(32, 0xAAAAAAAAL, 1, 10416);
    }

    private static void sumOfPlaces() {
        aboutRow(32, 0, 2, 32);
        aboutRow(32, 0xFFFFFFFFL, 2, -32);
        aboutRow(2, 1, 2, 0);
        aboutRow(1, 0, 2, 1);
        aboutRow(8, 72, 2, 4);
    }

    private static void unlikeNeighbours() {
        aboutRow(1, 1, 3, 0);
        aboutRow(2, 3, 3, 0);
        aboutRow(2, 1, 3, 1);
        // The last and the first place are not next to one another.
        aboutRow(3, 1, 3, 1);
        aboutRow(32, 0xAAAAAAAAL, 3, 31);
        aboutRow(32, 0xFFFFFFFFL, 3, 0);
        aboutRow(32, 0x80000000L, 3, 1);
        aboutRow(8, 72, 3, 4);
        aboutRow(5, 14, 3, 2);
    }

    private static void unlikeTurned() {
        aboutRow(1, 0, 4, 2);
        aboutRow(2, 0, 4, 4);
        aboutRow(5, 14, 4, 4);
        aboutRow(8, 72, 4, 8);
        aboutRow(32, 0, 4, 4);
        aboutRow(32, 1, 4, 8);
    }

    private static void aboutBadWhat() {
        for (int what : new int[] {-1, 5, LOWEST, HIGHEST}) {
            SAYS.refusedAlways("about(0, " + what + ")", x -> x.about(0, what), BAD);
        }
    }

    private static void aboutNoRow() {
        for (int r : NO_ROWS) {
            for (int what = 0; what < 5; what++) {
                int asked = what;
                SAYS.refusedAlways("about(" + r + ", " + asked + ")", x -> x.about(r, asked), BAD);
            }
        }
        SAYS.due("the first number behind the rows", State.SOME.made().about(State.KINDS, 0), BAD);
    }

    private static void sumOfLessOne() {
        aboutRow(1, 1, 2, -1);
        aboutRow(5, 14, 2, -1);
    }

    private static void leastOf(int length, long number, long want) {
        CancelRows x = new CancelRows();
        x.row(length, number);
        SAYS.due("least of row(" + length + ", " + number + ")", x.least(0), want);
    }

    private static void least() {
        leastOf(4, 8, 1);
        leastOf(8, 72, 18);
        leastOf(4, 13, 1);
    }

    private static void leastIsItself() {
        leastOf(4, 1, 1);
        leastOf(8, 18, 18);
        leastOf(5, 2, 2);
    }

    private static void leastOfEnds() {
        leastOf(1, 0, 0);
        leastOf(1, 1, 0);
        leastOf(32, 0, 0);
        leastOf(32, 0xFFFFFFFFL, 0);
        leastOf(32, 0xAAAAAAAAL, 0);
        leastOf(32, 0x55555555L, 0);
        leastOf(32, 0x80000000L, 1);
        leastOf(32, 0x7FFFFFFFL, 1);
    }

    private static void leastBad() {
        for (int r : NO_ROWS) {
            SAYS.refusedAlways("least(" + r + ")", x -> x.least(r), BAD);
        }
        SAYS.due("the first number behind the rows", State.SOME.made().least(State.KINDS), BAD);
    }
}
