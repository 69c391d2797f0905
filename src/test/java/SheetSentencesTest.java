/** The sentences on sheets: promises 3 to 5. */
public final class SheetSentencesTest {
    private static final Sentences SAYS = new Sentences();
    private static final int LOWEST = Sentences.LOWEST, HIGHEST = Sentences.HIGHEST;
    private static final int BAD = Sentences.BAD, FULL = Sentences.FULL;
    private static final int NULL = -11, INDEX = -12, CAST = -13, SIZE = -14;
    private static final int BYTES = 0, SHORTS = 1, INTS = 2;
    private static final int[] NO_SHEETS = {-1, 4, 5, LOWEST, HIGHEST};
    private static final int[] NO_LANES = {-1, 3, LOWEST, HIGHEST};

    public static void main(String[] args) {
        sheet();
        lay();
        draw();
        drawRefused();
        SAYS.end();
    }

    private static void sheet() {
        SAYS.test("3 SHEETS 0 to 3", SheetSentencesTest::fourSheets);
        SAYS.test("3 BAD: k", SheetSentencesTest::noSuchSheet);
        SAYS.test("3 lanes 0 to 2", SheetSentencesTest::threeLanes);
        SAYS.test("3 BAD: lane", SheetSentencesTest::noSuchLane);
        SAYS.test("3 with 0 CELLS", SheetSentencesTest::noCells);
        SAYS.test("3 to 64 CELLS", SheetSentencesTest::mostCells);
        SAYS.test("3 BAD: also n above 64", SheetSentencesTest::tooManyCells);
        SAYS.test("3 -10 - 4: SIZE (below 0)", SheetSentencesTest::belowNoCells);
        SAYS.test("3 BAD before SIZE", SheetSentencesTest::badBeforeSize);
        SAYS.test("3 a new row of CELLS 0", SheetSentencesTest::newCells);
        SAYS.test("3 the other SHEETS and the ROWS stay", SheetSentencesTest::othersStay);
    }

    private static void fourSheets() {
        CancelRows x = new CancelRows();
        for (int k = 0; k < 4; k++) {
            SAYS.due("sheet(" + k + ", 0, " + (k + 1) + ")", x.sheet(k, 0, k + 1), 1);
        }
        for (int k = 0; k < 4; k++) {
            SAYS.due("its last cell", x.lay(k, k, 1), 1);
            SAYS.due("none behind it", x.lay(k, k + 1, 1), INDEX);
        }
    }

    private static void noSuchSheet() {
        for (int k : NO_SHEETS) {
            SAYS.refusedAlways("sheet(" + k + ", 0, 1)", x -> x.sheet(k, 0, 1), BAD);
        }
    }

    private static void threeLanes() {
        for (int lane = 0; lane < 3; lane++) {
            CancelRows x = new CancelRows();
            SAYS.due("sheet(1, " + lane + ", 1)", x.sheet(1, lane, 1), 1);
            for (int other = 0; other < 3; other++) {
                SAYS.due("draw as " + other, x.draw(1, other, 0, 1), other == lane ? -20 : CAST);
            }
        }
    }

    private static void noSuchLane() {
        for (int lane : NO_LANES) {
            SAYS.refusedAlways("sheet(0, " + lane + ", 1)", x -> x.sheet(0, lane, 1), BAD);
        }
    }

    private static void noCells() {
        CancelRows x = new CancelRows();
        SAYS.due("sheet(0, 0, 0)", x.sheet(0, 0, 0), 1);
        SAYS.due("count(1)", x.count(1), 0);
        SAYS.due("lay(0, 0, 1)", x.lay(0, 0, 1), INDEX);
        SAYS.due("draw(0, 0, 0, 1)", x.draw(0, 0, 0, 1), INDEX);
    }

    private static void mostCells() {
        for (int lane = 0; lane < 3; lane++) {
            CancelRows x = new CancelRows();
            SAYS.due("sheet(0, lane, 64)", x.sheet(0, lane, 64), 1);
            SAYS.due("count(1)", x.count(1), 64);
            SAYS.due("lay(0, 63, 1)", x.lay(0, 63, 1), 1);
            SAYS.due("lay(0, 64, 1)", x.lay(0, 64, 1), INDEX);
            SAYS.due("draw(0, lane, 63, 1)", x.draw(0, lane, 63, 1), 0);
        }
    }

    private static void tooManyCells() {
        for (int n : new int[] {65, 66, 128, HIGHEST}) {
            SAYS.refusedAlways("sheet(0, 0, " + n + ")", x -> x.sheet(0, 0, n), BAD);
        }
    }

    private static void belowNoCells() {
        for (int n : new int[] {-1, -64, -65, LOWEST}) {
            SAYS.refusedAlways("sheet(0, 0, " + n + ")", x -> x.sheet(0, 0, n), SIZE);
            SAYS.refusedAlways("sheet(3, 2, " + n + ")", x -> x.sheet(3, 2, n), SIZE);
        }
    }

    private static void badBeforeSize() {
        for (int k : NO_SHEETS) {
            SAYS.refusedAlways("sheet(" + k + ", 0, -1)", x -> x.sheet(k, 0, -1), BAD);
        }
        for (int lane : NO_LANES) {
            SAYS.refusedAlways("sheet(0, " + lane + ", -1)", x -> x.sheet(0, lane, -1), BAD);
        }
    }

    private static void newCells() {
        CancelRows x = State.SOME.made();
        SAYS.due("as many, of the same lane", x.sheet(1, SHORTS, State.CELLS_OF_1), 1);
        for (int i = 0; i < State.CELLS_OF_1; i++) {
            SAYS.due("cell " + i + " of as many is 0", x.draw(1, SHORTS, i, 1), -20);
        }
        SAYS.due("fewer, of the same lane", x.sheet(1, SHORTS, 2), 1);
        SAYS.due("cell 0 is 0", x.draw(1, SHORTS, 0, 1), -20);
        SAYS.due("cell 1 is 0", x.draw(1, SHORTS, 1, 1), -20);
        SAYS.due("cell 2 is gone", x.draw(1, SHORTS, 2, 1), INDEX);
        SAYS.due("more, of another lane", x.sheet(0, INTS, 64), 1);
        for (int i = 0; i < 64; i++) {
            SAYS.due("cell " + i + " is 0", x.draw(0, INTS, i, 1), -20);
        }
        SAYS.due("the lane is another", x.draw(0, BYTES, 0, 1), CAST);
    }

    private static void othersStay() {
        CancelRows x = State.SOME.made();
        x.sheet(2, INTS, 7);
        x.sheet(2, INTS, 0);
        SAYS.holds("as before", Shown.of(x).equals(Shown.of(State.SOME.made())));
    }

    private static void lay() {
        SAYS.test("4 CELLS from 0 to the last", SheetSentencesTest::firstAndLastCell);
        SAYS.test("4 BAD: k", SheetSentencesTest::layInNoSuchSheet);
        SAYS.test("4 FAULT 1 NULL (nothing)", SheetSentencesTest::layInNothing);
        SAYS.test("4 FAULT 2 INDEX: too small", SheetSentencesTest::layBelow);
        SAYS.test("4 FAULT 2 INDEX: too large", SheetSentencesTest::layAbove);
        SAYS.test("4 FAULT 2 INDEX: of no CELLS", SheetSentencesTest::layInEmpty);
        SAYS.test("4 BAD before NULL, NULL before INDEX", SheetSentencesTest::layTheFirstThatFits);
        SAYS.test("4 its lowest bits: BYTES go round at 256", SheetSentencesTest::layBytes);
        SAYS.test("4 its lowest bits: SHORTS go round at 65536", SheetSentencesTest::layShorts);
        SAYS.test("4 its lowest bits: INTS hold all of it", SheetSentencesTest::layInts);
        SAYS.test("4 the other CELLS stay", SheetSentencesTest::layOne);
        SAYS.test("4 a drawn ROW stays", SheetSentencesTest::layBehindDraw);
    }

    private static void firstAndLastCell() {
        CancelRows x = new CancelRows();
        x.sheet(3, INTS, 9);
        SAYS.due("lay(3, 0, -1)", x.lay(3, 0, -1), 1);
        SAYS.due("lay(3, 8, -1)", x.lay(3, 8, -1), 1);
        SAYS.due("draw(3, 2, 0, 1)", x.draw(3, INTS, 0, 1), 0);
        SAYS.due("draw(3, 2, 8, 1)", x.draw(3, INTS, 8, 1), 1);
        SAYS.row("cell 0", x, 0, 1, 1);
        SAYS.row("cell 8", x, 1, 1, 1);
    }

    private static void layInNoSuchSheet() {
        for (int k : NO_SHEETS) {
            SAYS.refusedAlways("lay(" + k + ", 0, 1)", x -> x.lay(k, 0, 1), BAD);
        }
    }

    private static void layInNothing() {
        for (int k = 0; k < 4; k++) {
            int asked = k;
            SAYS.refused(State.NEW, "lay(" + k + ", 0, 1)", x -> x.lay(asked, 0, 1), NULL);
        }
        SAYS.refused(State.SOME, "lay(3, 0, 1)", x -> x.lay(3, 0, 1), NULL);
    }

    private static void layBelow() {
        for (int i : new int[] {-1, -3, -40, LOWEST}) {
            SAYS.refused(State.SOME, "lay(0, " + i + ", -1)", x -> x.lay(0, i, -1), INDEX);
            SAYS.refused(State.NONE_LEFT, "lay(1, " + i + ", -1)", x -> x.lay(1, i, -1), INDEX);
        }
    }

    private static void layAbove() {
        for (int i : new int[] {40, 41, 64, HIGHEST}) {
            SAYS.refused(State.SOME, "lay(0, " + i + ", -1)", x -> x.lay(0, i, -1), INDEX);
            SAYS.refused(State.NONE_LEFT, "lay(1, " + i + ", -1)", x -> x.lay(1, i, -1), INDEX);
        }
        SAYS.refused(State.SOME, "lay(0, 3, 1)", x -> x.lay(0, 3, 1), INDEX);
    }

    private static void layInEmpty() {
        SAYS.refused(State.SOME, "lay(2, 0, 1)", x -> x.lay(2, 0, 1), INDEX);
        SAYS.refused(State.SOME, "lay(2, -1, 1)", x -> x.lay(2, -1, 1), INDEX);
    }

    private static void layTheFirstThatFits() {
        SAYS.refused(State.NEW, "lay(4, -1, 1)", x -> x.lay(4, -1, 1), BAD);
        SAYS.refused(State.SOME, "lay(4, 64, 1)", x -> x.lay(4, 64, 1), BAD);
        SAYS.refused(State.SOME, "lay(3, -1, 1)", x -> x.lay(3, -1, 1), NULL);
        SAYS.refused(State.NEW, "lay(0, 64, 1)", x -> x.lay(0, 64, 1), NULL);
    }

    /** Lays v in a cell of its own: it is drawn as 1, as -1 (places due), or met as neither (0). */
    private static void laid(int lane, int v, int due) {
        CancelRows x = new CancelRows();
        x.sheet(1, lane, 1);
        SAYS.due("lay(1, 0, " + v + ")", x.lay(1, 0, v), 1);
        SAYS.due("draw of " + v, x.draw(1, lane, 0, 1), due == 0 ? -20 : 0);
        SAYS.due("place of " + v, x.place(0, 0), due);
    }

    private static void layBytes() {
        int[] ones = {1, 257, -255, 65537, LOWEST + 1};
        int[] lessOnes = {-1, 255, 511, -257, 65535, HIGHEST};
        int[] neither = {0, 2, -2, 127, 128, -128, 256, -256, 254, 258, 65536, LOWEST};
        for (int v : ones) {
            laid(BYTES, v, 1);
        }
        for (int v : lessOnes) {
            laid(BYTES, v, -1);
        }
        for (int v : neither) {
            laid(BYTES, v, 0);
        }
    }

    private static void layShorts() {
        int[] ones = {1, 65537, -65535, LOWEST + 1};
        int[] lessOnes = {-1, 65535, 131071, -65537, HIGHEST};
        int[] neither = {0, 2, -2, 255, 257, 32767, 32768, -32768, 65536, -65536, 65534, LOWEST};
        for (int v : ones) {
            laid(SHORTS, v, 1);
        }
        for (int v : lessOnes) {
            laid(SHORTS, v, -1);
        }
        for (int v : neither) {
            laid(SHORTS, v, 0);
        }
    }

    private static void layInts() {
        laid(INTS, 1, 1);
        laid(INTS, -1, -1);
        for (int v : new int[] {0, 2, -2, 255, 257, 65535, 65537, HIGHEST, LOWEST, LOWEST + 1}) {
            laid(INTS, v, 0);
        }
    }

    private static void layOne() {
        CancelRows x = State.SOME.made();
        SAYS.due("lay(1, 20, 0)", x.lay(1, 20, 0), 1);
        SAYS.due("the cell before it", x.place(x.draw(1, SHORTS, 19, 1), 0), 1);
        SAYS.due("itself", x.draw(1, SHORTS, 20, 1), -20);
        SAYS.due("the cell behind it", x.place(x.draw(1, SHORTS, 21, 1), 0), -1);
        SAYS.due("that of another sheet", x.place(x.draw(0, BYTES, 1, 1), 0), -1);
    }

    private static void layBehindDraw() {
        CancelRows x = new CancelRows();
        x.sheet(0, BYTES, 2);
        x.lay(0, 0, 1);
        x.lay(0, 1, -1);
        x.draw(0, BYTES, 0, 2);
        x.lay(0, 1, 1);
        x.sheet(0, BYTES, 0);
        SAYS.row("row 0", x, 0, 2, 2);
    }

    private static void draw() {
        SAYS.test("5 a ROW of CELLS from CELL f on", SheetSentencesTest::drawn);
        SAYS.test("5 of n (1 to 32) CELLS", SheetSentencesTest::drawFewestAndMost);
        SAYS.test("5 to the last CELL", SheetSentencesTest::drawToTheLast);
        SAYS.test("5 from each SHEET 0 to 3, of each lane", SheetSentencesTest::drawFromEach);
        SAYS.test("5 the last of 24 ROWS", SheetSentencesTest::drawTheLastRow);
    }

    private static void drawn() {
        CancelRows x = new CancelRows();
        x.sheet(1, SHORTS, 5);
        for (int i = 0; i < 5; i++) {
            x.lay(1, i, i % 3 == 0 ? -1 : 1);
        }
        SAYS.due("draw(1, 1, 0, 4)", x.draw(1, SHORTS, 0, 4), 0);
        SAYS.row("from cell 0", x, 0, 4, 9);
        SAYS.due("draw(1, 1, 1, 4)", x.draw(1, SHORTS, 1, 4), 1);
        SAYS.row("from cell 1", x, 1, 4, 4);
        x = State.SOME.made();
        SAYS.due("draw(1, 1, 4, 32)", x.draw(1, SHORTS, 4, 32), State.KINDS);
        SAYS.row("32 from cell 4", x, State.KINDS, 32, 0x24924924L);
    }

    private static void drawFewestAndMost() {
        CancelRows x = new CancelRows();
        x.sheet(0, BYTES, 64);
        for (int i = 0; i < 64; i++) {
            x.lay(0, i, i < 32 ? -1 : 1);
        }
        SAYS.due("draw(0, 0, 31, 1)", x.draw(0, BYTES, 31, 1), 0);
        SAYS.row("of one", x, 0, 1, 1);
        SAYS.due("draw(0, 0, 0, 32)", x.draw(0, BYTES, 0, 32), 1);
        SAYS.row("of 32", x, 1, 32, 0xFFFFFFFFL);
        SAYS.due("draw(0, 0, 1, 32)", x.draw(0, BYTES, 1, 32), 2);
        SAYS.row("of 32, from 1 on", x, 2, 32, 0x7FFFFFFFL);
        SAYS.due("draw(0, 0, 32, 32)", x.draw(0, BYTES, 32, 32), 3);
        SAYS.row("of the last 32", x, 3, 32, 0);
    }

    private static void drawToTheLast() {
        CancelRows x = new CancelRows();
        x.sheet(2, INTS, 3);
        for (int i = 0; i < 3; i++) {
            x.lay(2, i, -1);
        }
        SAYS.due("draw(2, 2, 0, 3)", x.draw(2, INTS, 0, 3), 0);
        SAYS.due("draw(2, 2, 2, 1)", x.draw(2, INTS, 2, 1), 1);
        SAYS.due("one beyond, of 3", x.draw(2, INTS, 1, 3), INDEX);
        SAYS.due("one beyond, of 1", x.draw(2, INTS, 3, 1), INDEX);
        SAYS.row("all three", x, 0, 3, 7);
    }

    private static void drawFromEach() {
        for (int lane = 0; lane < 3; lane++) {
            CancelRows x = new CancelRows();
            for (int k = 0; k < 4; k++) {
                x.sheet(k, lane, 2);
                x.lay(k, 0, k % 2 == 0 ? -1 : 1);
                x.lay(k, 1, k < 2 ? -1 : 1);
                SAYS.due("draw(" + k + ", " + lane + ", 0, 2)", x.draw(k, lane, 0, 2), k);
                SAYS.row("drawn of " + k, x, k, 2, 3 - k);
            }
        }
    }

    private static void drawTheLastRow() {
        CancelRows x = State.ONE_LEFT.made();
        SAYS.due("draw(0, 0, 0, 2)", x.draw(0, BYTES, 0, 2), 23);
        SAYS.row("drawn", x, 23, 2, 2);
    }

    private static void drawRefused() {
        SAYS.test("5 BAD: k", SheetSentencesTest::drawNoSuchSheet);
        SAYS.test("5 BAD: lane", SheetSentencesTest::drawNoSuchLane);
        SAYS.test("5 BAD: n", SheetSentencesTest::drawTooFewOrMany);
        SAYS.test("5 -10 less the FAULT: NULL", SheetSentencesTest::drawNothing);
        SAYS.test("5 -10 less the FAULT: CAST (another lane)", SheetSentencesTest::drawAnotherLane);
        SAYS.test("5 then INDEX: f too small", SheetSentencesTest::drawBelow);
        SAYS.test("5 then INDEX: f too large", SheetSentencesTest::drawAbove);
        SAYS.test("5 then INDEX: f + i beyond the last", SheetSentencesTest::drawBeyond);
        SAYS.test("5 -20 less i: neither 1 nor -1", SheetSentencesTest::drawNeither);
        SAYS.test("5 CELL by CELL, the first met", SheetSentencesTest::drawFirstMet);
        SAYS.test("5 BAD, NULL, CAST, CELLS: the first that fits", SheetSentencesTest::drawTheFirstThatFits);
        SAYS.test("5 FULL, behind all of these", SheetSentencesTest::drawFull);
    }

    private static void drawNoSuchSheet() {
        for (int k : NO_SHEETS) {
            SAYS.refusedAlways("draw(" + k + ", 0, 0, 1)", x -> x.draw(k, 0, 0, 1), BAD);
        }
    }

    private static void drawNoSuchLane() {
        for (int lane : NO_LANES) {
            SAYS.refusedAlways("draw(0, " + lane + ", 0, 1)", x -> x.draw(0, lane, 0, 1), BAD);
        }
    }

    private static void drawTooFewOrMany() {
        for (int n : new int[] {0, -1, 33, 34, 64, LOWEST, HIGHEST}) {
            SAYS.refusedAlways("draw(0, 0, 0, " + n + ")", x -> x.draw(0, BYTES, 0, n), BAD);
            SAYS.refusedAlways("draw(1, 1, 0, " + n + ")", x -> x.draw(1, SHORTS, 0, n), BAD);
        }
    }

    private static void drawNothing() {
        for (int lane = 0; lane < 3; lane++) {
            int asked = lane;
            SAYS.refusedAlways("draw(3, " + lane + ", 0, 1)", x -> x.draw(3, asked, 0, 1), NULL);
            SAYS.refused(State.NEW, "draw(0, " + lane + ", 0, 32)", x -> x.draw(0, asked, 0, 32), NULL);
        }
    }

    private static void drawAnotherLane() {
        for (int k = 0; k < 3; k++) {
            for (int lane = 0; lane < 3; lane++) {
                int of = k;
                int as = lane;
                if (as != of) {
                    SAYS.refused(State.SOME, "draw(" + k + ", " + lane + ", 0, 1)", x -> x.draw(of, as, 0, 1), CAST);
                }
            }
        }
    }

    private static void drawBelow() {
        for (int f : new int[] {-1, -2, -31, LOWEST}) {
            SAYS.refused(State.SOME, "draw(0, 0, " + f + ", 2)", x -> x.draw(0, BYTES, f, 2), INDEX);
            SAYS.refused(State.SOME, "draw(1, 1, " + f + ", 32)", x -> x.draw(1, SHORTS, f, 32), INDEX);
        }
    }

    private static void drawAbove() {
        // With f so great, f + i would go round behind the greatest int.
        for (int f : new int[] {40, 41, 64, HIGHEST - 31, HIGHEST - 1, HIGHEST}) {
            SAYS.refused(State.SOME, "draw(1, 1, " + f + ", 1)", x -> x.draw(1, SHORTS, f, 1), INDEX);
            SAYS.refused(State.SOME, "draw(1, 1, " + f + ", 32)", x -> x.draw(1, SHORTS, f, 32), INDEX);
        }
        SAYS.refused(State.SOME, "draw(2, 2, 0, 1)", x -> x.draw(2, INTS, 0, 1), INDEX);
    }

    private static CancelRows withOnes(int cells) {
        CancelRows x = new CancelRows();
        x.sheet(0, INTS, cells);
        for (int i = 0; i < cells; i++) {
            x.lay(0, i, 1);
        }
        return x;
    }

    private static void drawBeyond() {
        CancelRows x = withOnes(40);
        SAYS.due("draw(0, 2, 8, 32)", x.draw(0, INTS, 8, 32), 0);
        SAYS.due("draw(0, 2, 9, 32)", x.draw(0, INTS, 9, 32), INDEX);
        SAYS.due("draw(0, 2, 39, 2)", x.draw(0, INTS, 39, 2), INDEX);
        SAYS.due("count(0)", x.count(0), 1);
        SAYS.due("draw(0, 2, 0, 32) of 31", withOnes(31).draw(0, INTS, 0, 32), INDEX);
    }

    private static void drawNeither() {
        CancelRows x = withOnes(40);
        x.lay(0, 33, 0);
        SAYS.due("at i 0", x.draw(0, INTS, 33, 1), -20);
        SAYS.due("at i 1", x.draw(0, INTS, 32, 2), -21);
        SAYS.due("at i 31", x.draw(0, INTS, 2, 32), -51);
        SAYS.due("behind the last drawn", x.draw(0, INTS, 1, 32), 0);
        for (int v : new int[] {2, -2, HIGHEST, LOWEST}) {
            x.lay(0, 33, v);
            SAYS.due("at i 3, being " + v, x.draw(0, INTS, 30, 10), -23);
        }
        SAYS.refused(State.SOME, "draw(0, 0, 0, 3)", y -> y.draw(0, BYTES, 0, 3), -22);
        SAYS.due("count(0)", x.count(0), 1);
    }

    private static void drawFirstMet() {
        SAYS.refused(State.SOME, "two neither", x -> x.draw(1, SHORTS, 36, 4), -21);
        SAYS.refused(State.SOME, "neither before INDEX", x -> x.draw(1, SHORTS, 38, 3), -21);
        SAYS.refused(State.SOME, "neither before INDEX", x -> x.draw(0, BYTES, 0, 32), -22);
        SAYS.refused(State.SOME, "INDEX before neither", x -> x.draw(0, BYTES, -1, 4), INDEX);
    }

    private static void drawTheFirstThatFits() {
        SAYS.refused(State.NEW, "BAD before NULL", x -> x.draw(0, 3, 0, 1), BAD);
        SAYS.refused(State.NEW, "BAD before NULL", x -> x.draw(0, 0, 0, 33), BAD);
        SAYS.refused(State.SOME, "BAD before CAST", x -> x.draw(0, INTS, 0, 0), BAD);
        SAYS.refused(State.SOME, "BAD before INDEX", x -> x.draw(0, BYTES, -1, 33), BAD);
        SAYS.refused(State.SOME, "NULL before INDEX", x -> x.draw(3, BYTES, -1, 1), NULL);
        SAYS.refused(State.SOME, "CAST before INDEX", x -> x.draw(0, INTS, -1, 1), CAST);
        SAYS.refused(State.SOME, "CAST before neither", x -> x.draw(0, INTS, 2, 1), CAST);
    }

    private static void drawFull() {
        SAYS.refused(State.NONE_LEFT, "FULL", x -> x.draw(0, BYTES, 0, 2), FULL);
        SAYS.refused(State.NONE_LEFT, "FULL of 32", x -> x.draw(1, SHORTS, 0, 32), FULL);
        SAYS.refused(State.NONE_LEFT, "BAD before FULL", x -> x.draw(0, BYTES, 0, 33), BAD);
        SAYS.refused(State.NONE_LEFT, "NULL before FULL", x -> x.draw(3, BYTES, 0, 1), NULL);
        SAYS.refused(State.NONE_LEFT, "CAST before FULL", x -> x.draw(0, SHORTS, 0, 1), CAST);
        SAYS.refused(State.NONE_LEFT, "INDEX before FULL", x -> x.draw(0, BYTES, 3, 1), INDEX);
        SAYS.refused(State.NONE_LEFT, "neither before FULL", x -> x.draw(0, BYTES, 1, 2), -21);
    }
}
