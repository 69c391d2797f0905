/** The sentences on the whole object: how long it is used, its answers; promises 1, 6 and 27. */
public final class ObjectSentencesTest {
    private static final Sentences SAYS = new Sentences();
    private static final int LOWEST = Sentences.LOWEST, HIGHEST = Sentences.HIGHEST;
    private static final int BAD = Sentences.BAD, FULL = Sentences.FULL, NONE = Sentences.NONE;
    private static final int CALLS = 512;

    public static void main(String[] args) {
        SAYS.test("used for at most 512 calls: the last is answered", ObjectSentencesTest::lastCall);
        SAYS.test("used for at most 512 calls: the last row", ObjectSentencesTest::lastRow);
        SAYS.test("used for at most 512 calls: the last search", ObjectSentencesTest::lastSearch);
        SAYS.test("Answers: BAD -1, STATE -2, FULL -3, NONE -4", ObjectSentencesTest::answers);
        SAYS.test("asking changes nothing", ObjectSentencesTest::asking);
        SAYS.test("1 No ROWS", ObjectSentencesTest::noRows);
        SAYS.test("1 SHEETS have nothing", ObjectSentencesTest::noSheets);
        SAYS.test("1 another object's are its own", ObjectSentencesTest::another);
        SAYS.test("ROWS (24) are numbered as they come", ObjectSentencesTest::numbered);
        SAYS.test("6 The latest ROW goes", ObjectSentencesTest::latestGoes);
        SAYS.test("6 of all 24 to none", ObjectSentencesTest::allGo);
        SAYS.test("6 NONE", ObjectSentencesTest::noneToDrop);
        SAYS.test("6 its number is the next ROW's again", ObjectSentencesTest::numberAgain);
        SAYS.test("27 0 ROWS, from 0 to 24", ObjectSentencesTest::countRows);
        SAYS.test("27 1 CELLS of SHEET 0, from 0 to 64", ObjectSentencesTest::countCells);
        SAYS.test("27 of SHEET 0 alone", ObjectSentencesTest::countOfFirstAlone);
        SAYS.test("27 NONE: nothing", ObjectSentencesTest::countOfNothing);
        SAYS.test("27 BAD", ObjectSentencesTest::countBad);
        SAYS.end();
    }

    private static void lastCall() {
        CancelRows x = new CancelRows();
        SAYS.due("the first call", x.row(32, 0xFFFFFFFEL), 0);
        for (int i = 1; i < CALLS - 1; i++) {
            SAYS.due("call " + i + " of 512", x.open(0, 31), -1);
        }
        SAYS.due("the last call", x.number(0), 0xFFFFFFFEL);
    }

    private static void lastRow() {
        CancelRows x = new CancelRows();
        for (int i = 0; i < 23; i++) {
            SAYS.due("row " + i, x.row(3, 5), i);
        }
        for (int i = 23; i < CALLS - 1; i += 2) {
            SAYS.due("call " + i + " of 512", x.row(3, 1 + i % 7), 23);
            SAYS.due("the call behind it", x.drop(), 23);
        }
        SAYS.due("the last call", x.row(1, 1), 23);
    }

    private static void lastSearch() {
        CancelRows x = new CancelRows();
        for (int i = 0; i < CALLS - 3; i++) {
            SAYS.holds("call " + i + " of 512", x.best(1 + i % 14, i / 14 % 2, i / 28 % 4) >= 0);
        }
        SAYS.due("the last call but two", x.pairs(8, 0), 192);
        SAYS.due("the last call but one", x.squares(1000, 4), 17);
        SAYS.due("the last call", x.best(14, 1, 0), 19);
    }

    private static void answers() {
        SAYS.due("BAD", CancelRows.BAD, -1);
        SAYS.due("STATE", CancelRows.STATE, -2);
        SAYS.due("FULL", CancelRows.FULL, -3);
        SAYS.due("NONE", CancelRows.NONE, -4);
    }

    private static void asking() {
        for (State state : State.values()) {
            CancelRows x = state.made();
            for (int what = 0; what < 5; what++) {
                x.about(State.OF_8, what);
                x.pairs(4, what);
                x.best(5, what % 2, what);
            }
            x.length(State.OF_4);
            x.place(State.OF_4, 3);
            x.number(State.OF_4);
            x.open(State.OF_4, 1);
            x.round(State.OF_4, 1);
            x.least(State.OF_32);
            x.cancels(State.OF_4, State.OTHER_OF_4);
            x.four(State.OF_4, State.OTHER_OF_4, State.OF_4, State.OTHER_OF_4);
            x.why(18);
            x.squares(50, 3);
            x.pair(8, 4);
            x.count(0);
            x.count(1);
            SAYS.holds("of " + state, Shown.of(x).equals(Shown.of(state.made())));
        }
    }

    private static void noRows() {
        CancelRows x = new CancelRows();
        SAYS.due("count(0)", x.count(0), 0);
        SAYS.due("length(0)", x.length(0), BAD);
        SAYS.due("drop()", x.drop(), NONE);
        SAYS.due("the first row", x.row(1, 0), 0);
    }

    private static void noSheets() {
        CancelRows x = new CancelRows();
        SAYS.due("count(1)", x.count(1), NONE);
        for (int k = 0; k < 4; k++) {
            SAYS.due("lay(" + k + ", 0, 1)", x.lay(k, 0, 1), -11);
            for (int lane = 0; lane < 3; lane++) {
                SAYS.due("draw(" + k + ", " + lane + ", 0, 1)", x.draw(k, lane, 0, 1), -11);
            }
        }
    }

    private static void another() {
        CancelRows x = State.NONE_LEFT.made();
        CancelRows y = new CancelRows();
        SAYS.due("count(0)", y.count(0), 0);
        SAYS.due("count(1)", y.count(1), NONE);
        SAYS.due("row", y.row(4, 15), 0);
        SAYS.due("sheet", y.sheet(0, 2, 1), 1);
        SAYS.due("the first one's row", x.number(0), 8);
        SAYS.due("the first one's cells", x.count(1), 3);
    }

    private static void numbered() {
        CancelRows x = new CancelRows();
        for (int r = 0; r < 24; r++) {
            SAYS.due("row " + r, x.row(5, r), r);
        }
        SAYS.due("one more", x.row(5, 24), FULL);
        for (int r = 0; r < 24; r++) {
            SAYS.row("row " + r, x, r, 5, r);
        }
    }

    private static void latestGoes() {
        CancelRows x = State.SOME.made();
        int latest = State.KINDS - 1;
        SAYS.due("drop()", x.drop(), latest);
        SAYS.due("it is gone", x.length(latest), BAD);
        SAYS.due("its NUMBER is gone", x.number(latest), BAD);
        SAYS.due("count(0)", x.count(0), latest);
        SAYS.row("the one before it stays", x, latest - 1, 3, 1);
        SAYS.row("the first stays", x, 0, 4, 8);
        SAYS.due("cells stay", x.count(1), 3);
    }

    private static void allGo() {
        CancelRows x = State.NONE_LEFT.made();
        for (int r = 23; r >= 0; r--) {
            SAYS.due("drop()", x.drop(), r);
            SAYS.due("count(0)", x.count(0), r);
        }
        SAYS.due("drop()", x.drop(), NONE);
    }

    private static void noneToDrop() {
        SAYS.refused(State.NEW, "drop()", x -> x.drop(), NONE);
        SAYS.refused(State.NEW, "drop() behind row, drop() and drop()", x -> {
            x.row(2, 1);
            x.drop();
            x.drop();
            return x.drop();
        }, NONE);
    }

    private static void numberAgain() {
        CancelRows x = State.NONE_LEFT.made();
        SAYS.due("drop()", x.drop(), 23);
        SAYS.due("row", x.row(6, 33), 23);
        SAYS.row("row 23 again", x, 23, 6, 33);
        SAYS.due("one more", x.row(6, 33), FULL);
    }

    private static void countRows() {
        CancelRows x = new CancelRows();
        for (int many = 0; many < 24; many++) {
            SAYS.due("count(0)", x.count(0), many);
            x.row(2, 3);
        }
        SAYS.due("count(0)", x.count(0), 24);
        x.row(2, 3);
        SAYS.due("count(0) behind FULL", x.count(0), 24);
    }

    private static void countCells() {
        CancelRows x = new CancelRows();
        for (int many : new int[] {0, 1, 63, 64, 0}) {
            x.sheet(0, many % 3, many);
            SAYS.due("count(1)", x.count(1), many);
        }
    }

    private static void countOfFirstAlone() {
        CancelRows x = new CancelRows();
        for (int k = 1; k < 4; k++) {
            x.sheet(k, 0, 10 + k);
            SAYS.due("count(1) behind sheet " + k, x.count(1), NONE);
        }
        x.sheet(0, 0, 9);
        x.sheet(3, 0, 8);
        SAYS.due("count(1)", x.count(1), 9);
    }

    private static void countOfNothing() {
        SAYS.refused(State.NEW, "count(1)", x -> x.count(1), NONE);
    }

    private static void countBad() {
        for (int what : new int[] {-1, 2, LOWEST, HIGHEST}) {
            SAYS.refusedAlways("count(" + what + ")", x -> x.count(what), BAD);
        }
    }
}
