/** The sentences on rows made of rows, and of told lengths: promises 14 to 17, 20 and 21. */
public final class NewRowSentencesTest {
    private static final Sentences SAYS = new Sentences();
    private static final int LOWEST = Sentences.LOWEST, HIGHEST = Sentences.HIGHEST;
    private static final int BAD = Sentences.BAD, FULL = Sentences.FULL, NONE = Sentences.NONE;
    private static final int BACK = 0, SIGNS = 1, SECOND = 2;
    private static final int[] NO_ROWS = {-1, State.NO_ROW, 25, LOWEST, HIGHEST};

    public static void main(String[] args) {
        turn();
        put();
        weave();
        times();
        doubled();
        told();
        SAYS.end();
    }

    /** An object with two rows; what is made of them is row 2. */
    private static CancelRows withTwo(int lengthOfA, long a, int lengthOfB, long b) {
        CancelRows x = new CancelRows();
        x.row(lengthOfA, a);
        x.row(lengthOfB, b);
        return x;
    }

    private static void turn() {
        SAYS.test("14 BACK: PLACE i becomes PLACE n - 1 - i", NewRowSentencesTest::back);
        SAYS.test("14 SIGNS: each becomes its opposite", NewRowSentencesTest::signs);
        SAYS.test("14 SECOND: each at an odd i", NewRowSentencesTest::second);
        SAYS.test("14 of 1 PLACE", NewRowSentencesTest::turnOne);
        SAYS.test("14 of 32 PLACES", NewRowSentencesTest::turnLongest);
        SAYS.test("14 as a new one: the ROW itself stays", NewRowSentencesTest::turnedIsNew);
        SAYS.test("14 BAD: no such ROW", NewRowSentencesTest::turnNoRow);
        SAYS.test("14 BAD: way (0 to 2)", NewRowSentencesTest::turnNoWay);
        SAYS.test("14 FULL", NewRowSentencesTest::turnFull);
        SAYS.test("14 BAD before FULL", NewRowSentencesTest::turnBadBeforeFull);
    }

    private static void turned(int length, long number, int way, long want) {
        CancelRows x = new CancelRows();
        x.row(length, number);
        String call = "turn " + way + " of row(" + length + ", " + number + ")";
        SAYS.due(call, x.turn(0, way), 1);
        SAYS.row(call, x, 1, length, want);
    }

    private static void back() {
        turned(5, 19, BACK, 25);
        turned(4, 1, BACK, 8);
        turned(2, 1, BACK, 2);
    }

    private static void signs() {
        turned(5, 19, SIGNS, 12);
        turned(4, 15, SIGNS, 0);
        turned(2, 1, SIGNS, 2);
    }

    private static void second() {
        turned(5, 19, SECOND, 25);
        turned(4, 0, SECOND, 10);
        turned(2, 0, SECOND, 2);
        turned(3, 0, SECOND, 2);
    }

    private static void turnOne() {
        for (int number = 0; number < 2; number++) {
            turned(1, number, BACK, number);
            turned(1, number, SIGNS, 1 - number);
            turned(1, number, SECOND, number);
        }
    }

    private static void turnLongest() {
        turned(32, 1, BACK, 0x80000000L);
        turned(32, 0x80000000L, BACK, 1);
        turned(32, 0, SIGNS, 0xFFFFFFFFL);
        turned(32, 0xFFFFFFFFL, SIGNS, 0);
        turned(32, 0, SECOND, 0xAAAAAAAAL);
        turned(32, 0xFFFFFFFFL, SECOND, 0x55555555L);
    }

    private static void turnedIsNew() {
        CancelRows x = State.SOME.made();
        SAYS.due("turn(0, 1)", x.turn(0, SIGNS), State.KINDS);
        SAYS.row("the new one", x, State.KINDS, 4, 7);
        SAYS.due("drop()", x.drop(), State.KINDS);
        SAYS.holds("all else is as before", Shown.of(x).equals(Shown.of(State.SOME.made())));
    }

    private static void turnNoRow() {
        for (int r : NO_ROWS) {
            SAYS.refusedAlways("turn(" + r + ", 0)", x -> x.turn(r, BACK), BAD);
        }
        SAYS.refused(State.SOME, "the first number behind the rows", x -> x.turn(State.KINDS, BACK), BAD);
        SAYS.refused(State.ONE_LEFT, "the first number behind the rows", x -> x.turn(23, BACK), BAD);
    }

    private static void turnNoWay() {
        for (int way : new int[] {-1, 3, 4, LOWEST, HIGHEST}) {
            SAYS.refusedAlways("turn(0, " + way + ")", x -> x.turn(0, way), BAD);
        }
    }

    private static void turnFull() {
        CancelRows x = State.ONE_LEFT.made();
        SAYS.due("the last", x.turn(State.OF_32, SIGNS), 23);
        SAYS.row("the last", x, 23, 32, 0x0F0F0F0EL);
        for (int way = 0; way < 3; way++) {
            int asked = way;
            SAYS.refused(State.NONE_LEFT, "turn(0, " + way + ")", y -> y.turn(0, asked), FULL);
        }
    }

    private static void turnBadBeforeFull() {
        SAYS.refused(State.NONE_LEFT, "turn(0, 3)", x -> x.turn(0, 3), BAD);
        SAYS.refused(State.NONE_LEFT, "turn(24, 0)", x -> x.turn(24, 0), BAD);
    }

    private static void put() {
        SAYS.test("15 one ROW behind another", NewRowSentencesTest::putBehind);
        SAYS.test("15 the shortest", NewRowSentencesTest::putShortest);
        SAYS.test("15 of 32 PLACES", NewRowSentencesTest::putLongest);
        SAYS.test("15 FULL: also longer than 32", NewRowSentencesTest::putTooLong);
        SAYS.test("15 FULL", NewRowSentencesTest::putFull);
        SAYS.test("15 BAD", NewRowSentencesTest::putBad);
        SAYS.test("15 BAD before FULL", NewRowSentencesTest::putBadBeforeFull);
    }

    private static void made(String call, CancelRows x, int r, int length, long number) {
        SAYS.due(call, r, 2);
        SAYS.row(call, x, 2, length, number);
    }

    private static void putBehind() {
        CancelRows x = withTwo(4, 8, 5, 2);
        made("put(0, 1)", x, x.put(0, 1), 9, 40);
        x = withTwo(4, 8, 5, 2);
        made("put(1, 0)", x, x.put(1, 0), 9, 258);
        x = withTwo(4, 8, 5, 2);
        made("put(0, 0)", x, x.put(0, 0), 8, 136);
        SAYS.row("the first itself", x, 0, 4, 8);
        SAYS.row("the second itself", x, 1, 5, 2);
    }

    private static void putShortest() {
        CancelRows x = withTwo(1, 0, 1, 1);
        made("put(0, 1)", x, x.put(0, 1), 2, 2);
        x = withTwo(1, 0, 1, 1);
        made("put(1, 0)", x, x.put(1, 0), 2, 1);
    }

    private static void putLongest() {
        CancelRows x = withTwo(16, 1, 16, 0x8000);
        made("16 and 16", x, x.put(0, 1), 32, 0x80000001L);
        x = withTwo(31, 1, 1, 1);
        made("31 and 1", x, x.put(0, 1), 32, 0x80000001L);
        x = withTwo(1, 1, 31, 0x40000000L);
        made("1 and 31", x, x.put(0, 1), 32, 0x80000001L);
    }

    private static void putTooLong() {
        SAYS.refused(State.SOME, "16 and 17", x -> x.put(State.OF_16, State.OF_17), FULL);
        SAYS.refused(State.SOME, "17 and 16", x -> x.put(State.OF_17, State.OF_16), FULL);
        SAYS.refused(State.SOME, "32 and 1", x -> x.put(State.OF_32, State.OF_1), FULL);
        SAYS.refused(State.SOME, "1 and 32", x -> x.put(State.OF_1, State.OF_32), FULL);
        SAYS.refused(State.SOME, "32 and 32", x -> x.put(State.OF_32, State.OF_32), FULL);
    }

    private static void putFull() {
        CancelRows x = State.ONE_LEFT.made();
        SAYS.due("the last", x.put(State.OF_16, State.OTHER_OF_16), 23);
        SAYS.row("the last", x, 23, 32, 0x80000001L);
        SAYS.refused(State.NONE_LEFT, "put(0, 1)", y -> y.put(0, 1), FULL);
        SAYS.refused(State.NONE_LEFT, "put, too long", y -> y.put(State.OF_32, State.OF_32), FULL);
    }

    private static void putBad() {
        for (int r : NO_ROWS) {
            SAYS.refusedAlways("put(" + r + ", 0)", x -> x.put(r, 0), BAD);
            SAYS.refusedAlways("put(0, " + r + ")", x -> x.put(0, r), BAD);
        }
        SAYS.refused(State.SOME, "behind the rows, first", x -> x.put(State.KINDS, 0), BAD);
        SAYS.refused(State.SOME, "behind the rows, second", x -> x.put(0, State.KINDS), BAD);
    }

    private static void putBadBeforeFull() {
        SAYS.refused(State.NONE_LEFT, "put(0, 24)", x -> x.put(0, 24), BAD);
        SAYS.refused(State.NONE_LEFT, "put(24, 0)", x -> x.put(24, 0), BAD);
        SAYS.refused(State.SOME, "put(of 32, none)", x -> x.put(State.OF_32, State.NO_ROW), BAD);
    }

    private static void weave() {
        SAYS.test("16 PLACE 0 of the first, PLACE 0 of the second, ..", NewRowSentencesTest::woven);
        SAYS.test("16 the shortest", NewRowSentencesTest::weaveShortest);
        SAYS.test("16 of 32 PLACES", NewRowSentencesTest::weaveLongest);
        SAYS.test("16 BAD: also unlike lengths", NewRowSentencesTest::weaveUnlike);
        SAYS.test("16 BAD: no such ROW", NewRowSentencesTest::weaveBad);
        SAYS.test("16 FULL likewise: longer than 32", NewRowSentencesTest::weaveTooLong);
        SAYS.test("16 FULL", NewRowSentencesTest::weaveFull);
        SAYS.test("16 BAD before FULL", NewRowSentencesTest::weaveBadBeforeFull);
    }

    private static void woven() {
        CancelRows x = withTwo(4, 8, 4, 4);
        made("weave(0, 1)", x, x.weave(0, 1), 8, 96);
        x = withTwo(4, 8, 4, 4);
        made("weave(1, 0)", x, x.weave(1, 0), 8, 144);
        x = withTwo(4, 8, 4, 4);
        made("weave(0, 0)", x, x.weave(0, 0), 8, 192);
        SAYS.row("the first itself", x, 0, 4, 8);
        SAYS.row("the second itself", x, 1, 4, 4);
    }

    private static void weaveShortest() {
        CancelRows x = withTwo(1, 0, 1, 1);
        made("weave(0, 1)", x, x.weave(0, 1), 2, 2);
        x = withTwo(1, 0, 1, 1);
        made("weave(1, 0)", x, x.weave(1, 0), 2, 1);
    }

    private static void weaveLongest() {
        CancelRows x = withTwo(16, 1, 16, 0x8000);
        made("weave(0, 1)", x, x.weave(0, 1), 32, 0x80000001L);
        x = withTwo(16, 0, 16, 0xFFFF);
        made("of ones and less ones", x, x.weave(0, 1), 32, 0xAAAAAAAAL);
    }

    private static void weaveUnlike() {
        SAYS.refusedAlways("4 and 5", x -> x.weave(State.OF_4, State.OF_5), BAD);
        SAYS.refusedAlways("5 and 4", x -> x.weave(State.OF_5, State.OF_4), BAD);
        SAYS.refusedAlways("16 and 17", x -> x.weave(State.OF_16, State.OF_17), BAD);
    }

    private static void weaveBad() {
        for (int r : NO_ROWS) {
            SAYS.refusedAlways("weave(" + r + ", 0)", x -> x.weave(r, 0), BAD);
            SAYS.refusedAlways("weave(0, " + r + ")", x -> x.weave(0, r), BAD);
            SAYS.refusedAlways("weave(" + r + ", " + r + ")", x -> x.weave(r, r), BAD);
        }
        SAYS.refused(State.SOME, "behind the rows, first", x -> x.weave(State.KINDS, 0), BAD);
        SAYS.refused(State.SOME, "behind the rows, second", x -> x.weave(0, State.KINDS), BAD);
    }

    private static void weaveTooLong() {
        SAYS.refused(State.SOME, "17 and 17", x -> x.weave(State.OF_17, State.OF_17), FULL);
        SAYS.refused(State.SOME, "32 and 32", x -> x.weave(State.OF_32, State.OF_32), FULL);
    }

    private static void weaveFull() {
        CancelRows x = State.ONE_LEFT.made();
        SAYS.due("the last", x.weave(State.OF_16, State.OTHER_OF_16), 23);
        SAYS.row("the last", x, 23, 32, 0x80000001L);
        SAYS.refused(State.NONE_LEFT, "weave(0, 1)", y -> y.weave(0, 1), FULL);
    }

    private static void weaveBadBeforeFull() {
        SAYS.refused(State.NONE_LEFT, "unlike lengths", x -> x.weave(State.OF_4, State.OF_5), BAD);
        SAYS.refused(State.NONE_LEFT, "no such row", x -> x.weave(0, State.NO_ROW), BAD);
        SAYS.refused(State.SOME, "unlike lengths, too long", x -> x.weave(State.OF_17, State.OF_32), BAD);
    }

    private static void times() {
        SAYS.test("17 each PLACE of the first replaced by the second times it", NewRowSentencesTest::product);
        SAYS.test("17 with 1 PLACE", NewRowSentencesTest::timesShortest);
        SAYS.test("17 of 32 PLACES", NewRowSentencesTest::timesLongest);
        SAYS.test("17 FULL likewise: longer than 32", NewRowSentencesTest::timesTooLong);
        SAYS.test("17 FULL", NewRowSentencesTest::timesFull);
        SAYS.test("17 BAD", NewRowSentencesTest::timesBad);
        SAYS.test("17 BAD before FULL", NewRowSentencesTest::timesBadBeforeFull);
    }

    private static void product() {
        CancelRows x = withTwo(2, 2, 3, 1);
        made("times(0, 1)", x, x.times(0, 1), 6, 49);
        x = withTwo(2, 2, 3, 1);
        made("times(1, 0)", x, x.times(1, 0), 6, 41);
        x = withTwo(2, 2, 3, 1);
        made("times(0, 0)", x, x.times(0, 0), 4, 6);
        SAYS.row("the first itself", x, 0, 2, 2);
        SAYS.row("the second itself", x, 1, 3, 1);
    }

    private static void timesShortest() {
        CancelRows x = withTwo(1, 1, 1, 1);
        made("1 and 1", x, x.times(0, 1), 1, 0);
        x = withTwo(1, 1, 1, 0);
        made("1 and 1", x, x.times(0, 1), 1, 1);
        x = withTwo(1, 1, 32, 0);
        made("1 and 32", x, x.times(0, 1), 32, 0xFFFFFFFFL);
        x = withTwo(1, 1, 32, 1);
        made("32 and 1", x, x.times(1, 0), 32, 0xFFFFFFFEL);
    }

    private static void timesLongest() {
        CancelRows x = withTwo(16, 1, 2, 2);
        made("16 and 2", x, x.times(0, 1), 32, 0xAAAAAAA9L);
        x = withTwo(16, 1, 2, 2);
        made("2 and 16", x, x.times(1, 0), 32, 0xFFFE0001L);
        x = withTwo(4, 8, 8, 72);
        made("4 and 8", x, x.times(0, 1), 32, 0xB7484848L);
    }

    private static void timesTooLong() {
        SAYS.refused(State.SOME, "3 and 11", x -> x.times(State.OF_3, State.OF_11), FULL);
        SAYS.refused(State.SOME, "11 and 3", x -> x.times(State.OF_11, State.OF_3), FULL);
        SAYS.refused(State.SOME, "8 and 5", x -> x.times(State.OF_8, State.OF_5), FULL);
        SAYS.refused(State.SOME, "32 and 32", x -> x.times(State.OF_32, State.OF_32), FULL);
        SAYS.refused(State.SOME, "16 and 16", x -> x.times(State.OF_16, State.OF_16), FULL);
    }

    private static void timesFull() {
        CancelRows x = State.ONE_LEFT.made();
        SAYS.due("the last", x.times(State.OF_1, State.OF_3), 23);
        SAYS.row("the last", x, 23, 3, 6);
        SAYS.refused(State.NONE_LEFT, "times(0, 1)", y -> y.times(0, 1), FULL);
        SAYS.refused(State.NONE_LEFT, "times by 1", y -> y.times(State.OF_1, State.OF_1), FULL);
    }

    private static void timesBad() {
        for (int r : NO_ROWS) {
            SAYS.refusedAlways("times(" + r + ", 0)", x -> x.times(r, 0), BAD);
            SAYS.refusedAlways("times(0, " + r + ")", x -> x.times(0, r), BAD);
        }
        SAYS.refused(State.SOME, "behind the rows, first", x -> x.times(State.KINDS, 0), BAD);
        SAYS.refused(State.SOME, "behind the rows, second", x -> x.times(0, State.KINDS), BAD);
    }

    private static void timesBadBeforeFull() {
        SAYS.refused(State.NONE_LEFT, "times(0, 24)", x -> x.times(0, 24), BAD);
        SAYS.refused(State.NONE_LEFT, "times(24, 0)", x -> x.times(24, 0), BAD);
        SAYS.refused(State.SOME, "times(of 32, none)", x -> x.times(State.OF_32, State.NO_ROW), BAD);
    }

    private static void doubled() {
        SAYS.test("20 A with B behind it, A with B's opposite", NewRowSentencesTest::doubledPair);
        SAYS.test("20 (CANCEL or not)", NewRowSentencesTest::doubledUncancelled);
        SAYS.test("20 the shortest", NewRowSentencesTest::doubledShortest);
        SAYS.test("20 of 32 PLACES", NewRowSentencesTest::doubledLongest);
        SAYS.test("20 BAD likewise: unlike lengths", NewRowSentencesTest::doubledUnlike);
        SAYS.test("20 BAD likewise: no such ROW", NewRowSentencesTest::doubledBad);
        SAYS.test("20 FULL: also longer than 32", NewRowSentencesTest::doubledTooLong);
        SAYS.test("20 the last two of 24", NewRowSentencesTest::doubledLast);
        SAYS.test("20 FULL", NewRowSentencesTest::doubledFull);
        SAYS.test("20 FULL: room for one alone", NewRowSentencesTest::doubledHalfFull);
        SAYS.test("20 BAD before FULL", NewRowSentencesTest::doubledBadBeforeFull);
    }

    private static void twoMade(String call, CancelRows x, int r, int length, long first, long second) {
        SAYS.due(call, r, 2);
        SAYS.row(call + ", the first", x, 2, length, first);
        SAYS.row(call + ", the second", x, 3, length, second);
        SAYS.due(call + ", all rows", x.count(0), 4);
    }

    private static void doubledPair() {
        CancelRows x = withTwo(4, 8, 4, 4);
        twoMade("doubled(0, 1)", x, x.doubled(0, 1), 8, 72, 184);
        SAYS.due("they cancel", x.cancels(2, 3), 0);
        x = withTwo(4, 8, 4, 4);
        twoMade("doubled(1, 0)", x, x.doubled(1, 0), 8, 132, 116);
    }

    private static void doubledUncancelled() {
        CancelRows x = withTwo(3, 1, 3, 6);
        twoMade("doubled(0, 1)", x, x.doubled(0, 1), 6, 49, 9);
        x = withTwo(4, 8, 4, 4);
        twoMade("doubled(0, 0)", x, x.doubled(0, 0), 8, 136, 120);
    }

    private static void doubledShortest() {
        CancelRows x = withTwo(1, 0, 1, 1);
        twoMade("doubled(0, 1)", x, x.doubled(0, 1), 2, 2, 0);
    }

    private static void doubledLongest() {
        CancelRows x = withTwo(16, 1, 16, 0x8000);
        twoMade("doubled(0, 1)", x, x.doubled(0, 1), 32, 0x80000001L, 0x7FFF0001L);
    }

    private static void doubledUnlike() {
        SAYS.refusedAlways("4 and 5", x -> x.doubled(State.OF_4, State.OF_5), BAD);
        SAYS.refusedAlways("5 and 4", x -> x.doubled(State.OF_5, State.OF_4), BAD);
    }

    private static void doubledBad() {
        for (int r : NO_ROWS) {
            SAYS.refusedAlways("doubled(" + r + ", 0)", x -> x.doubled(r, 0), BAD);
            SAYS.refusedAlways("doubled(0, " + r + ")", x -> x.doubled(0, r), BAD);
            SAYS.refusedAlways("doubled(" + r + ", " + r + ")", x -> x.doubled(r, r), BAD);
        }
        SAYS.refused(State.SOME, "behind the rows, first", x -> x.doubled(State.KINDS, 0), BAD);
        SAYS.refused(State.SOME, "behind the rows, second", x -> x.doubled(0, State.KINDS), BAD);
    }

    private static void doubledTooLong() {
        SAYS.refused(State.SOME, "17 and 17", x -> x.doubled(State.OF_17, State.OF_17), FULL);
        SAYS.refused(State.SOME, "32 and 32", x -> x.doubled(State.OF_32, State.OF_32), FULL);
    }

    private static void doubledLast() {
        CancelRows x = State.ONE_LEFT.made();
        x.drop();
        SAYS.due("doubled(0, 1)", x.doubled(0, 1), 22);
        SAYS.row("the last but one", x, 22, 8, 72);
        SAYS.row("the last", x, 23, 8, 184);
        SAYS.due("count(0)", x.count(0), 24);
    }

    private static void doubledFull() {
        SAYS.refused(State.NONE_LEFT, "doubled(0, 1)", x -> x.doubled(0, 1), FULL);
        SAYS.refused(State.NONE_LEFT, "doubled, too long", x -> x.doubled(State.OF_17, State.OF_17), FULL);
    }

    private static void doubledHalfFull() {
        SAYS.refused(State.ONE_LEFT, "doubled(0, 1)", x -> x.doubled(0, 1), FULL);
    }

    private static void doubledBadBeforeFull() {
        SAYS.refused(State.NONE_LEFT, "unlike lengths", x -> x.doubled(State.OF_4, State.OF_5), BAD);
        SAYS.refused(State.ONE_LEFT, "unlike lengths", x -> x.doubled(State.OF_4, State.OF_5), BAD);
        SAYS.refused(State.NONE_LEFT, "no such row", x -> x.doubled(0, State.NO_ROW), BAD);
        SAYS.refused(State.SOME, "unlike lengths, too long", x -> x.doubled(State.OF_17, State.OF_32), BAD);
    }

    private static void told() {
        SAYS.test("21 the PAIR of each TOLD LENGTH", NewRowSentencesTest::toldLengths);
        SAYS.test("21 BAD: n too small", NewRowSentencesTest::toldTooShort);
        SAYS.test("21 BAD: n too large", NewRowSentencesTest::toldTooLong);
        SAYS.test("21 NONE", NewRowSentencesTest::toldNone);
        SAYS.test("21 the last two of 24", NewRowSentencesTest::toldLast);
        SAYS.test("21 FULL", NewRowSentencesTest::toldFull);
        SAYS.test("21 FULL: room for one alone", NewRowSentencesTest::toldHalfFull);
        SAYS.test("21 BAD, NONE, FULL: the first that fits", NewRowSentencesTest::toldTheFirstThatFits);
    }

    private static void toldLengths() {
        int[] lengths = {1, 2, 4, 8, 16, 32, 10, 20, 26};
        long[] firsts = {0, 0, 8, 72, 47176, 1195948104L, 212, 790740, 6477200};
        long[] seconds = {0, 2, 4, 184, 18248, 3099048008L, 772, 257236, 60622224};
        CancelRows x = new CancelRows();
        for (int i = 0; i < lengths.length; i++) {
            SAYS.due("told(" + lengths[i] + ")", x.told(lengths[i]), 2 * i);
            SAYS.row("the first of " + lengths[i], x, 2 * i, lengths[i], firsts[i]);
            SAYS.row("the second of " + lengths[i], x, 2 * i + 1, lengths[i], seconds[i]);
            SAYS.due("they cancel", x.cancels(2 * i, 2 * i + 1), 0);
        }
        SAYS.due("count(0)", x.count(0), 18);
    }

    private static void toldTooShort() {
        for (int n : new int[] {0, -1, -2, -32, LOWEST}) {
            SAYS.refusedAlways("told(" + n + ")", x -> x.told(n), BAD);
        }
    }

    private static void toldTooLong() {
        for (int n : new int[] {33, 34, 40, 52, 64, 1 << 30, HIGHEST}) {
            SAYS.refusedAlways("told(" + n + ")", x -> x.told(n), BAD);
        }
    }

    private static void toldNone() {
        int[] none = {3, 5, 6, 7, 9, 11, 12, 13, 14, 15, 17, 18, 19, 21, 22, 23, 24, 25, 27, 28, 29, 30, 31};
        for (int n : none) {
            SAYS.refused(State.NEW, "told(" + n + ")", x -> x.told(n), NONE);
            SAYS.refused(State.SOME, "told(" + n + ")", x -> x.told(n), NONE);
        }
    }

    private static void toldLast() {
        CancelRows x = State.ONE_LEFT.made();
        x.drop();
        SAYS.due("told(26)", x.told(26), 22);
        SAYS.row("the last but one", x, 22, 26, 6477200);
        SAYS.row("the last", x, 23, 26, 60622224);
        SAYS.due("count(0)", x.count(0), 24);
    }

    private static void toldFull() {
        for (int n : new int[] {1, 2, 10, 20, 26, 32}) {
            SAYS.refused(State.NONE_LEFT, "told(" + n + ")", x -> x.told(n), FULL);
        }
    }

    private static void toldHalfFull() {
        for (int n : new int[] {1, 2, 10, 20, 26, 32}) {
            SAYS.refused(State.ONE_LEFT, "told(" + n + ")", x -> x.told(n), FULL);
        }
    }

    private static void toldTheFirstThatFits() {
        SAYS.refused(State.NONE_LEFT, "BAD before FULL", x -> x.told(33), BAD);
        SAYS.refused(State.NONE_LEFT, "BAD before FULL", x -> x.told(0), BAD);
        SAYS.refused(State.NONE_LEFT, "NONE before FULL", x -> x.told(3), NONE);
        SAYS.refused(State.ONE_LEFT, "NONE before FULL", x -> x.told(18), NONE);
    }
}
