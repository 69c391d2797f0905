/** Each promise by answers written out: ordinary inputs, the edges that the document names, wrong inputs. */
public final class PromisesTest {
    private static final Due DUE = new Due();
    private static final int LOWEST = Integer.MIN_VALUE, HIGHEST = Integer.MAX_VALUE;

    public static void main(String[] args) {
        newObject();
        row();
        rowIsFull();
        sheet();
        lay();
        draw();
        drawMeetsTheFirst();
        drop();
        lengthPlaceNumber();
        openAndRound();
        about();
        least();
        turn();
        put();
        weave();
        times();
        cancels();
        four();
        doubled();
        told();
        toldIsFull();
        why();
        squares();
        pairs();
        pair();
        best();
        count();
        DUE.end();
    }

    private static CancelRows withRows(int many) {
        CancelRows x = new CancelRows();
        for (int i = 0; i < many; i++) {
            DUE.due("row " + i, x.row(2, i % 4), i);
        }
        return x;
    }

    private static void newObject() {
        CancelRows x = new CancelRows();
        DUE.due("1 count(0)", x.count(0), 0);
        DUE.due("1 count(1)", x.count(1), -4);
        DUE.due("1 drop()", x.drop(), -4);
        for (int k = 0; k < 4; k++) {
            DUE.due("1 draw", x.draw(k, 0, 0, 1), -11);
        }
        x.row(3, 1);
        x.sheet(0, 0, 1);
        DUE.due("1 another's count(0)", new CancelRows().count(0), 0);
        DUE.due("1 another's count(1)", new CancelRows().count(1), -4);
    }

    private static void row() {
        CancelRows x = new CancelRows();
        DUE.due("2 row(1, 0)", x.row(1, 0), 0);
        DUE.due("2 row(1, 1)", x.row(1, 1), 1);
        DUE.due("2 row(32, highest)", x.row(32, 4294967295L), 2);
        DUE.due("2 row(31, highest)", x.row(31, 2147483647L), 3);
        DUE.due("2 row(31, too high)", x.row(31, 2147483648L), -1);
        DUE.due("2 row(32, too high)", x.row(32, 4294967296L), -1);
        DUE.due("2 row(1, 2)", x.row(1, 2), -1);
        DUE.due("2 row(5, 4294967296)", x.row(5, 4294967296L), -1);
        DUE.due("2 row(5, -1)", x.row(5, -1), -1);
        DUE.due("2 row(5, lowest)", x.row(5, Long.MIN_VALUE), -1);
        DUE.due("2 row(5, highest)", x.row(5, Long.MAX_VALUE), -1);
        DUE.due("2 row(0, 0)", x.row(0, 0), -1);
        DUE.due("2 row(33, 0)", x.row(33, 0), -1);
        DUE.due("2 row(-1, 0)", x.row(-1, 0), -1);
        DUE.due("2 row(lowest, 0)", x.row(LOWEST, 0), -1);
        DUE.due("2 row(highest, 0)", x.row(HIGHEST, 0), -1);
        DUE.due("2 refused changes nothing", x.count(0), 4);
        DUE.due("2 number(2)", x.number(2), 4294967295L);
    }

    private static void rowIsFull() {
        CancelRows x = withRows(23);
        DUE.due("2 row 23", x.row(32, 7), 23);
        DUE.due("2 row 24", x.row(1, 0), -3);
        DUE.due("2 BAD before FULL", x.row(1, 2), -1);
        DUE.due("2 BAD before FULL", x.row(0, 0), -1);
        DUE.due("2 count(0)", x.count(0), 24);
        DUE.due("2 number(23)", x.number(23), 7);
        DUE.due("2 drop()", x.drop(), 23);
        DUE.due("2 row again", x.row(3, 5), 23);
        DUE.due("2 number(23) again", x.number(23), 5);
    }

    private static void sheet() {
        CancelRows x = new CancelRows();
        DUE.due("3 sheet(0, 0, 0)", x.sheet(0, 0, 0), 1);
        DUE.due("3 no cells", x.count(1), 0);
        DUE.due("3 sheet(3, 2, 64)", x.sheet(3, 2, 64), 1);
        DUE.due("3 cells are 0", x.draw(3, 2, 63, 1), -20);
        DUE.due("3 sheet(0, 1, 64)", x.sheet(0, 1, 64), 1);
        DUE.due("3 64 cells", x.count(1), 64);
        DUE.due("3 lay", x.lay(0, 0, 1), 1);
        DUE.due("3 sheet(0, 1, -1)", x.sheet(0, 1, -1), -14);
        DUE.due("3 sheet(0, 1, lowest)", x.sheet(0, 1, LOWEST), -14);
        DUE.due("3 sheet(0, 1, 65)", x.sheet(0, 1, 65), -1);
        DUE.due("3 sheet(0, 1, highest)", x.sheet(0, 1, HIGHEST), -1);
        DUE.due("3 sheet(0, 3, 1)", x.sheet(0, 3, 1), -1);
        DUE.due("3 sheet(0, -1, 1)", x.sheet(0, -1, 1), -1);
        DUE.due("3 sheet(4, 0, 1)", x.sheet(4, 0, 1), -1);
        DUE.due("3 sheet(-1, 0, 1)", x.sheet(-1, 0, 1), -1);
        DUE.due("3 BAD before SIZE", x.sheet(4, 0, -1), -1);
        DUE.due("3 BAD before SIZE", x.sheet(0, 3, -1), -1);
        DUE.due("3 refused changes nothing", x.draw(0, 1, 0, 1), 0);
        DUE.due("3 sheet anew", x.sheet(0, 1, 2), 1);
        DUE.due("3 cells anew are 0", x.draw(0, 1, 0, 1), -20);
        DUE.due("3 lane anew", x.sheet(0, 2, 2), 1);
        DUE.due("3 lane anew", x.draw(0, 1, 0, 1), -13);
    }

    private static void lay() {
        CancelRows x = new CancelRows();
        DUE.due("4 NULL", x.lay(0, 0, 1), -11);
        DUE.due("4 NULL before INDEX", x.lay(3, -1, 1), -11);
        DUE.due("4 k", x.lay(4, 0, 1), -1);
        DUE.due("4 k", x.lay(-1, 0, 1), -1);
        DUE.due("4 k", x.lay(LOWEST, 0, 1), -1);
        x.sheet(0, 0, 2);
        DUE.due("4 INDEX", x.lay(0, 2, 1), -12);
        DUE.due("4 INDEX", x.lay(0, -1, 1), -12);
        DUE.due("4 INDEX", x.lay(0, HIGHEST, 1), -12);
        DUE.due("4 INDEX", x.lay(0, LOWEST, 1), -12);
        x.sheet(1, 0, 0);
        DUE.due("4 INDEX of no cells", x.lay(1, 0, 1), -12);
        layCut(x, 0, 0, 257, 255);
        layCut(x, 1, 1, 65537, 65535);
        layCut(x, 2, 2, 1, -1);
        x.sheet(0, 1, 1);
        x.lay(0, 0, 255);
        DUE.due("4 255 is no less one as a SHORT", x.draw(0, 1, 0, 1), -20);
        x.sheet(0, 2, 1);
        x.lay(0, 0, 65535);
        DUE.due("4 65535 is no less one as an INT", x.draw(0, 2, 0, 1), -20);
    }

    private static void layCut(CancelRows x, int k, int lane, int one, int lessOne) {
        x.sheet(k, lane, 2);
        DUE.due("4 lay", x.lay(k, 0, one), 1);
        DUE.due("4 lay", x.lay(k, 1, lessOne), 1);
        int r = x.draw(k, lane, 0, 2);
        DUE.due("4 laid in lane " + lane, x.number(r), 2);
    }

    private static CancelRows drawable() {
        CancelRows x = new CancelRows();
        x.sheet(1, 1, 40);
        for (int i = 0; i < 40; i++) {
            x.lay(1, i, i % 3 == 0 ? -1 : 1);
        }
        return x;
    }

    private static void draw() {
        CancelRows x = drawable();
        DUE.due("5 draw from 0", x.draw(1, 1, 0, 4), 0);
        DUE.due("5 length", x.length(0), 4);
        DUE.due("5 number", x.number(0), 9);
        DUE.due("5 draw from 1", x.draw(1, 1, 1, 4), 1);
        DUE.due("5 number", x.number(1), 4);
        DUE.due("5 draw 32", x.draw(1, 1, 8, 32), 2);
        DUE.due("5 length", x.length(2), 32);
        DUE.due("5 number", x.number(2), 0x92492492L);
        DUE.due("5 draw the last", x.draw(1, 1, 39, 1), 3);
        DUE.due("5 number", x.number(3), 1);
        DUE.due("5 k", x.draw(4, 1, 0, 4), -1);
        DUE.due("5 k", x.draw(-1, 1, 0, 4), -1);
        DUE.due("5 lane", x.draw(1, 3, 0, 4), -1);
        DUE.due("5 lane", x.draw(1, -1, 0, 4), -1);
        DUE.due("5 n", x.draw(1, 1, 0, 0), -1);
        DUE.due("5 n", x.draw(1, 1, 0, 33), -1);
        DUE.due("5 n", x.draw(1, 1, 0, LOWEST), -1);
        DUE.due("5 n", x.draw(1, 1, 0, HIGHEST), -1);
        DUE.due("5 NULL", x.draw(0, 1, 0, 4), -11);
        DUE.due("5 CAST", x.draw(1, 0, 0, 4), -13);
        DUE.due("5 CAST", x.draw(1, 2, 0, 4), -13);
        DUE.due("5 INDEX", x.draw(1, 1, 40, 1), -12);
        DUE.due("5 INDEX", x.draw(1, 1, 9, 32), -12);
        DUE.due("5 INDEX", x.draw(1, 1, -1, 4), -12);
        DUE.due("5 INDEX", x.draw(1, 1, HIGHEST, 32), -12);
        DUE.due("5 INDEX", x.draw(1, 1, LOWEST, 32), -12);
        DUE.due("5 refused changes nothing", x.count(0), 4);
    }

    private static void drawMeetsTheFirst() {
        CancelRows x = drawable();
        x.lay(1, 39, 0);
        x.lay(1, 37, 2);
        DUE.due("5 neither", x.draw(1, 1, 36, 2), -21);
        DUE.due("5 the first neither", x.draw(1, 1, 36, 4), -21);
        DUE.due("5 neither before INDEX", x.draw(1, 1, 38, 3), -21);
        DUE.due("5 neither at 31", x.draw(1, 1, 6, 32), -51);
        DUE.due("5 BAD before NULL", x.draw(0, 3, 0, 4), -1);
        DUE.due("5 NULL before INDEX", x.draw(0, 1, -1, 4), -11);
        DUE.due("5 CAST before INDEX", x.draw(1, 0, -1, 4), -13);
        for (int i = 0; i < 23; i++) {
            x.row(1, 0);
        }
        DUE.due("5 room for one", x.draw(1, 1, 0, 4), 23);
        DUE.due("5 FULL", x.draw(1, 1, 0, 4), -3);
        DUE.due("5 BAD before FULL", x.draw(1, 1, 0, 33), -1);
        DUE.due("5 NULL before FULL", x.draw(0, 1, 0, 4), -11);
        DUE.due("5 CAST before FULL", x.draw(1, 0, 0, 4), -13);
        DUE.due("5 INDEX before FULL", x.draw(1, 1, 40, 4), -12);
        DUE.due("5 neither before FULL", x.draw(1, 1, 36, 4), -21);
    }

    private static void drop() {
        CancelRows x = withRows(2);
        DUE.due("6 drop()", x.drop(), 1);
        DUE.due("6 gone", x.length(1), -1);
        DUE.due("6 the other stays", x.number(0), 0);
        DUE.due("6 its number again", x.row(4, 3), 1);
        DUE.due("6 drop()", x.drop(), 1);
        DUE.due("6 drop()", x.drop(), 0);
        DUE.due("6 NONE", x.drop(), -4);
        DUE.due("6 NONE", x.drop(), -4);
        DUE.due("6 count(0)", x.count(0), 0);
    }

    private static void lengthPlaceNumber() {
        CancelRows x = new CancelRows();
        x.row(4, 8);
        x.row(32, 0x80000001L);
        DUE.due("7 length(0)", x.length(0), 4);
        DUE.due("7 length(1)", x.length(1), 32);
        DUE.due("8 place(0, 0)", x.place(0, 0), 1);
        DUE.due("8 place(0, 3)", x.place(0, 3), -1);
        DUE.due("8 place(0, 4)", x.place(0, 4), 0);
        DUE.due("8 place(0, -1)", x.place(0, -1), 0);
        DUE.due("8 place(1, 0)", x.place(1, 0), -1);
        DUE.due("8 place(1, 30)", x.place(1, 30), 1);
        DUE.due("8 place(1, 31)", x.place(1, 31), -1);
        DUE.due("8 place(1, 32)", x.place(1, 32), 0);
        DUE.due("8 place(0, highest)", x.place(0, HIGHEST), 0);
        DUE.due("8 place(0, lowest)", x.place(0, LOWEST), 0);
        DUE.due("9 number(0)", x.number(0), 8);
        DUE.due("9 number(1)", x.number(1), 0x80000001L);
        for (int r : new int[] {-1, 2, 24, HIGHEST, LOWEST}) {
            DUE.due("7 length(" + r + ")", x.length(r), -1);
            DUE.due("8 place(" + r + ", 0)", x.place(r, 0), 0);
            DUE.due("9 number(" + r + ")", x.number(r), -1);
        }
    }

    private static void openAndRound() {
        CancelRows x = new CancelRows();
        x.row(5, 2);
        x.row(32, 0);
        x.row(1, 1);
        int[] open = {5, 0, 1, 0, 1, 1000};
        int[] round = {5, 1, 1, 1, 1, 1000};
        for (int k = 0; k < 6; k++) {
            DUE.due("10 open(0, " + k + ")", x.open(0, k), open[k]);
            DUE.due("11 round(0, " + k + ")", x.round(0, k), round[k]);
        }
        DUE.due("10 open(1, 0)", x.open(1, 0), 32);
        DUE.due("10 open(1, 31)", x.open(1, 31), 1);
        DUE.due("11 round(1, 31)", x.round(1, 31), 32);
        DUE.due("10 open(2, 0)", x.open(2, 0), 1);
        DUE.due("11 round(2, 0)", x.round(2, 0), 1);
        for (int k : new int[] {-1, 32, HIGHEST, LOWEST}) {
            DUE.due("10 open(1, " + k + ")", x.open(1, k), 1000);
            DUE.due("11 round(1, " + k + ")", x.round(1, k), 1000);
        }
        for (int r : new int[] {-1, 3, HIGHEST, LOWEST}) {
            DUE.due("10 open(" + r + ", 0)", x.open(r, 0), 1000);
            DUE.due("11 round(" + r + ", 0)", x.round(r, 0), 1000);
        }
    }

    private static void about() {
        CancelRows x = new CancelRows();
        x.row(8, 72);
        x.row(1, 1);
        x.row(32, 0);
        x.row(32, 0xFFFFFFFFL);
        x.row(5, 14);
        int[][] due = {{3, 12, 4, 4, 8}, {0, 0, -1, 0, 2}, {31, 10416, 32, 0, 4}, {31, 10416, -32, 0, 4},
            {2, 6, -1, 2, 4}};
        for (int r = 0; r < due.length; r++) {
            for (int what = 0; what < 5; what++) {
                DUE.due("12 about(" + r + ", " + what + ")", x.about(r, what), due[r][what]);
            }
        }
        for (int wrong : new int[] {-1, 5, HIGHEST, LOWEST}) {
            DUE.due("12 about(0, " + wrong + ")", x.about(0, wrong), -1);
            DUE.due("12 about(" + wrong + ", 0)", x.about(wrong, 0), -1);
        }
    }

    private static void least() {
        CancelRows x = new CancelRows();
        x.row(4, 8);
        x.row(8, 72);
        x.row(32, 0xFFFFFFFFL);
        x.row(32, 0xAAAAAAAAL);
        x.row(1, 1);
        long[] due = {1, 18, 0, 0, 0};
        for (int r = 0; r < due.length; r++) {
            DUE.due("13 least(" + r + ")", x.least(r), due[r]);
        }
        for (int r : new int[] {-1, 5, HIGHEST, LOWEST}) {
            DUE.due("13 least(" + r + ")", x.least(r), -1);
        }
    }

    private static void turn() {
        CancelRows x = new CancelRows();
        x.row(5, 19);
        DUE.due("14 BACK", x.turn(0, 0), 1);
        DUE.due("14 SIGNS", x.turn(0, 1), 2);
        DUE.due("14 SECOND", x.turn(0, 2), 3);
        DUE.due("14 BACK", x.number(1), 25);
        DUE.due("14 SIGNS", x.number(2), 12);
        DUE.due("14 SECOND", x.number(3), 25);
        DUE.due("14 length", x.length(3), 5);
        DUE.due("14 itself stays", x.number(0), 19);
        for (int wrong : new int[] {-1, 4, HIGHEST, LOWEST}) {
            DUE.due("14 turn(0, " + wrong + ")", x.turn(0, wrong), -1);
            DUE.due("14 turn(" + wrong + ", 0)", x.turn(wrong, 0), -1);
        }
        DUE.due("14 turn(0, 3)", x.turn(0, 3), -1);
        x.row(32, 1);
        x.turn(4, 0);
        DUE.due("14 BACK of 32", x.number(5), 0x80000000L);
        x = withRows(23);
        DUE.due("14 room for one", x.turn(0, 0), 23);
        DUE.due("14 FULL", x.turn(0, 0), -3);
        DUE.due("14 BAD before FULL", x.turn(0, 3), -1);
        DUE.due("14 BAD before FULL", x.turn(24, 0), -1);
    }

    private static void put() {
        CancelRows x = new CancelRows();
        x.row(4, 8);
        x.row(5, 2);
        x.row(16, 1);
        x.row(17, 1);
        DUE.due("15 put(0, 1)", x.put(0, 1), 4);
        DUE.due("15 length", x.length(4), 9);
        DUE.due("15 number", x.number(4), 40);
        DUE.due("15 put(1, 0)", x.put(1, 0), 5);
        DUE.due("15 number", x.number(5), 258);
        DUE.due("15 32 long", x.put(2, 2), 6);
        DUE.due("15 number", x.number(6), 65537);
        DUE.due("15 33 long", x.put(2, 3), -3);
        DUE.due("15 no row", x.put(0, 7), -1);
        DUE.due("15 no row", x.put(7, 0), -1);
        DUE.due("15 no row", x.put(-1, 0), -1);
        DUE.due("15 no row", x.put(0, LOWEST), -1);
        DUE.due("15 refused changes nothing", x.count(0), 7);
        x = withRows(23);
        DUE.due("15 room for one", x.put(0, 1), 23);
        DUE.due("15 FULL", x.put(0, 1), -3);
        DUE.due("15 BAD before FULL", x.put(0, 24), -1);
    }

    private static void weave() {
        CancelRows x = new CancelRows();
        x.row(4, 8);
        x.row(4, 4);
        x.row(5, 2);
        x.row(16, 1);
        x.row(16, 0x8000);
        x.row(17, 0);
        DUE.due("16 weave(0, 1)", x.weave(0, 1), 6);
        DUE.due("16 length", x.length(6), 8);
        DUE.due("16 number", x.number(6), 96);
        DUE.due("16 weave(1, 0)", x.weave(1, 0), 7);
        DUE.due("16 number", x.number(7), 144);
        DUE.due("16 32 long", x.weave(3, 4), 8);
        DUE.due("16 number", x.number(8), 0x80000001L);
        DUE.due("16 34 long", x.weave(5, 5), -3);
        DUE.due("16 unlike lengths", x.weave(0, 2), -1);
        DUE.due("16 no row", x.weave(0, 9), -1);
        DUE.due("16 no row", x.weave(-1, 0), -1);
        x = withRows(22);
        x.row(3, 0);
        DUE.due("16 room for one", x.weave(0, 1), 23);
        DUE.due("16 FULL", x.weave(0, 1), -3);
        DUE.due("16 BAD before FULL", x.weave(0, 22), -1);
    }

    private static void times() {
        CancelRows x = new CancelRows();
        x.row(2, 2);
        x.row(3, 1);
        x.row(16, 1);
        x.row(11, 1);
        x.row(32, 0);
        x.row(1, 1);
        DUE.due("17 times(0, 1)", x.times(0, 1), 6);
        DUE.due("17 length", x.length(6), 6);
        DUE.due("17 number", x.number(6), 49);
        DUE.due("17 times(1, 0)", x.times(1, 0), 7);
        DUE.due("17 number", x.number(7), 41);
        DUE.due("17 32 long", x.times(2, 0), 8);
        DUE.due("17 number", x.number(8), 0xAAAAAAA9L);
        DUE.due("17 one of 32", x.times(5, 4), 9);
        DUE.due("17 number", x.number(9), 0xFFFFFFFFL);
        DUE.due("17 33 long", x.times(3, 1), -3);
        DUE.due("17 1024 long", x.times(4, 4), -3);
        DUE.due("17 no row", x.times(0, 10), -1);
        DUE.due("17 no row", x.times(-1, 0), -1);
        DUE.due("17 refused changes nothing", x.count(0), 10);
        x = withRows(23);
        DUE.due("17 room for one", x.times(0, 1), 23);
        DUE.due("17 FULL", x.times(0, 1), -3);
        DUE.due("17 BAD before FULL", x.times(24, 1), -1);
    }

    private static void cancels() {
        CancelRows x = new CancelRows();
        x.row(4, 8);
        x.row(4, 4);
        x.row(5, 2);
        x.row(4, 0);
        x.row(4, 2);
        x.row(1, 0);
        x.row(1, 1);
        DUE.due("18 cancels(0, 1)", x.cancels(0, 1), 0);
        DUE.due("18 cancels(0, 0)", x.cancels(0, 0), 1);
        DUE.due("18 cancels(1, 3)", x.cancels(1, 3), 1);
        DUE.due("18 cancels(0, 4)", x.cancels(0, 4), 0);
        DUE.due("18 of length 1", x.cancels(5, 6), 0);
        x.row(3, 0);
        x.row(3, 2);
        DUE.due("18 not at the last shift", x.cancels(7, 8), 2);
        DUE.due("18 unlike lengths", x.cancels(0, 2), -1);
        for (int r : new int[] {-1, 9, HIGHEST, LOWEST}) {
            DUE.due("18 cancels(" + r + ", 0)", x.cancels(r, 0), -1);
            DUE.due("18 cancels(0, " + r + ")", x.cancels(0, r), -1);
        }
    }

    private static void four() {
        CancelRows x = new CancelRows();
        x.row(4, 8);
        x.row(4, 0);
        x.row(4, 5);
        x.row(5, 2);
        x.row(4, 3);
        x.row(1, 1);
        DUE.due("19 four(0, 0, 0, 0)", x.four(0, 0, 0, 0), 0);
        DUE.due("19 four(1, 2, 0, 0)", x.four(1, 2, 0, 0), 2);
        DUE.due("19 four(1, 2, 4, 4)", x.four(1, 2, 4, 4), 0);
        DUE.due("19 four(1, 1, 2, 0)", x.four(1, 1, 2, 0), 1);
        DUE.due("19 of length 1", x.four(5, 5, 5, 5), 0);
        for (int wrong : new int[] {3, -1, 6, HIGHEST, LOWEST}) {
            DUE.due("19 a is " + wrong, x.four(wrong, 0, 0, 0), -1);
            DUE.due("19 b is " + wrong, x.four(0, wrong, 0, 0), -1);
            DUE.due("19 c is " + wrong, x.four(0, 0, wrong, 0), -1);
            DUE.due("19 d is " + wrong, x.four(0, 0, 0, wrong), -1);
        }
    }

    private static void doubled() {
        CancelRows x = new CancelRows();
        x.row(3, 1);
        x.row(3, 6);
        x.row(4, 0);
        x.row(16, 1);
        x.row(17, 1);
        DUE.due("20 doubled(0, 1)", x.doubled(0, 1), 5);
        DUE.due("20 length", x.length(5), 6);
        DUE.due("20 first", x.number(5), 49);
        DUE.due("20 second", x.number(6), 9);
        DUE.due("20 its length", x.length(6), 6);
        DUE.due("20 32 long", x.doubled(3, 3), 7);
        DUE.due("20 second", x.number(8), 0xFFFE0001L);
        DUE.due("20 34 long", x.doubled(4, 4), -3);
        DUE.due("20 unlike lengths", x.doubled(0, 2), -1);
        DUE.due("20 no row", x.doubled(0, 9), -1);
        DUE.due("20 no row", x.doubled(-1, 0), -1);
        DUE.due("20 refused changes nothing", x.count(0), 9);
        x = withRows(22);
        DUE.due("20 the last two", x.doubled(0, 1), 22);
        DUE.due("20 count(0)", x.count(0), 24);
        DUE.due("20 FULL", x.doubled(0, 1), -3);
        x.drop();
        DUE.due("20 room for one alone", x.doubled(0, 1), -3);
        DUE.due("20 refused adds none of the two", x.count(0), 23);
        DUE.due("20 BAD before FULL", x.doubled(0, 22), -1);
    }

    private static void told() {
        CancelRows x = new CancelRows();
        int[] lengths = {1, 2, 4, 8, 16, 32, 10, 20, 26};
        long[] firsts = {0, 0, 8, 72, 47176, 1195948104L, 212, 790740, 6477200};
        long[] seconds = {0, 2, 4, 184, 18248, 3099048008L, 772, 257236, 60622224};
        for (int i = 0; i < lengths.length; i++) {
            DUE.due("21 told(" + lengths[i] + ")", x.told(lengths[i]), 2 * i);
            DUE.due("21 length", x.length(2 * i + 1), lengths[i]);
            DUE.due("21 first", x.number(2 * i), firsts[i]);
            DUE.due("21 second", x.number(2 * i + 1), seconds[i]);
            DUE.due("21 cancels", x.cancels(2 * i, 2 * i + 1), 0);
        }
        for (int n : new int[] {3, 5, 6, 7, 9, 12, 13, 18, 24, 25, 27, 30, 31}) {
            DUE.due("21 told(" + n + ")", x.told(n), -4);
        }
        for (int n : new int[] {0, -1, 33, 40, 52, 64, HIGHEST, LOWEST}) {
            DUE.due("21 told(" + n + ")", x.told(n), -1);
        }
        DUE.due("21 refused changes nothing", x.count(0), 18);
    }

    private static void toldIsFull() {
        CancelRows x = withRows(23);
        DUE.due("21 room for one alone", x.told(2), -3);
        DUE.due("21 refused adds none of the two", x.count(0), 23);
        DUE.due("21 NONE before FULL", x.told(3), -4);
        DUE.due("21 BAD before FULL", x.told(33), -1);
        x.drop();
        DUE.due("21 the last two", x.told(26), 22);
        DUE.due("21 FULL", x.told(1), -3);
    }

    private static void why() {
        CancelRows x = new CancelRows();
        int[][] due = {{1, 0}, {2, 0}, {3, 1}, {4, 0}, {5, 1}, {6, 2}, {8, 0}, {9, 1}, {10, 0}, {14, 2}, {18, 3},
            {26, 0}, {36, 3}, {49, 1}, {50, 0}, {68, 0}, {98, 3}, {242, 3}, {722, 3}, {999998, 2}, {999999, 1},
            {1000000, 0}, {962 * 962, 0}, {998 * 998, 3}, {0, -1}, {-1, -1}, {1000001, -1}, {1000002, -1},
            {HIGHEST, -1}, {LOWEST, -1}};
        for (int[] one : due) {
            DUE.due("22 why(" + one[0] + ")", x.why(one[0]), one[1]);
        }
    }

    private static void squares() {
        CancelRows x = new CancelRows();
        int[][] due = {{0, 1, 1}, {0, 4, 1}, {3, 1, 0}, {999999, 1, 0}, {1000000, 1, 1}, {25, 2, 2}, {50, 2, 2},
            {1000000, 2, 4}, {7, 3, 0}, {7, 4, 1}, {50, 3, 3}, {1000, 3, 4}, {1000, 4, 17}, {1001, 2, 0},
            {1001, 3, -1}, {1001, 4, -1}, {1000001, 1, -1}, {1000001, 2, -1}, {-1, 1, -1}, {-1, 3, -1}, {5, 0, -1},
            {5, 5, -1}, {5, -1, -1}, {5, LOWEST, -1}, {5, HIGHEST, -1}, {LOWEST, 2, -1}, {HIGHEST, 2, -1},
            {LOWEST, 4, -1}, {HIGHEST, 4, -1}};
        for (int[] one : due) {
            DUE.due("23 squares(" + one[0] + ", " + one[1] + ")", x.squares(one[0], one[1]), one[2]);
        }
    }

    private static void pairs() {
        CancelRows x = new CancelRows();
        int[][] due = {{4, 1, 0, 0}, {8, 1, 0, 1}, {0, 0, -4, -4}, {32, 1, 1, 2}, {0, 0, -4, -4}, {0, 0, -4, -4},
            {0, 0, -4, -4}, {192, 5, 6, 53}};
        for (int n = 1; n <= 8; n++) {
            for (int what = 0; what < 4; what++) {
                DUE.due("24 pairs(" + n + ", " + what + ")", x.pairs(n, what), due[n - 1][what]);
            }
        }
        for (int wrong : new int[] {-1, 9, HIGHEST, LOWEST}) {
            DUE.due("24 pairs(" + wrong + ", 0)", x.pairs(wrong, 0), -1);
            DUE.due("24 pairs(4, " + wrong + ")", x.pairs(4, wrong), -1);
        }
        DUE.due("24 pairs(0, 0)", x.pairs(0, 0), -1);
        DUE.due("24 pairs(4, 4)", x.pairs(4, 4), -1);
        DUE.due("24 makes no rows", x.count(0), 0);
    }

    private static void pair() {
        CancelRows x = new CancelRows();
        int[][] due = {{1, 0, 0}, {1, 1, -4}, {2, 0, 1}, {2, 1, -4}, {3, 0, -4}, {4, 0, 1002}, {4, 1, -4}, {7, 0, -4},
            {8, 0, 6053}, {8, 4, 33046}, {8, 5, -4}, {8, HIGHEST, -4}, {8, -1, -1}, {8, LOWEST, -1}, {3, -1, -1},
            {0, 0, -1}, {9, 0, -1}, {HIGHEST, 0, -1}, {LOWEST, 0, -1}};
        for (int[] one : due) {
            DUE.due("25 pair(" + one[0] + ", " + one[1] + ")", x.pair(one[0], one[1]), one[2]);
        }
        for (int i = 1; i < 5; i++) {
            DUE.holds("25 the less ahead at " + i, x.pair(8, i - 1) < x.pair(8, i));
            x.row(8, x.pair(8, i) / 1000);
            x.row(8, x.pair(8, i) % 1000);
            DUE.due("25 cancels", x.cancels(2 * i - 2, 2 * i - 1), 0);
        }
    }

    private static void best() {
        CancelRows x = new CancelRows();
        int[][] due = {{1, 0, 0, 0, 2, 1}, {2, 1, 1, 0, 4, 1}, {4, 0, 1, 1, 8, 1}, {4, 1, 2, 1, 8, 1},
            {7, 1, 3, 13, 4, 1}, {13, 0, 1, 202, 4, 1}, {13, 1, 6, 202, 4, 1}, {14, 0, 2, 202, 72, 9},
            {14, 1, 19, 202, 72, 9}};
        for (int[] one : due) {
            for (int what = 0; what < 4; what++) {
                String call = "26 best(" + one[0] + ", " + one[1] + ", " + what + ")";
                DUE.due(call, x.best(one[0], one[1], what), one[2 + what]);
            }
        }
        for (int wrong : new int[] {-1, 15, HIGHEST, LOWEST}) {
            DUE.due("26 best(" + wrong + ", 0, 0)", x.best(wrong, 0, 0), -1);
            DUE.due("26 best(4, " + wrong + ", 0)", x.best(4, wrong, 0), -1);
            DUE.due("26 best(4, 0, " + wrong + ")", x.best(4, 0, wrong), -1);
        }
        DUE.due("26 best(0, 0, 0)", x.best(0, 0, 0), -1);
        DUE.due("26 best(4, 2, 0)", x.best(4, 2, 0), -1);
        DUE.due("26 best(4, 0, 4)", x.best(4, 0, 4), -1);
        DUE.due("26 makes no rows", x.count(0), 0);
    }

    private static void count() {
        CancelRows x = withRows(3);
        DUE.due("27 count(0)", x.count(0), 3);
        DUE.due("27 NONE", x.count(1), -4);
        x.sheet(1, 0, 7);
        DUE.due("27 of sheet 0 alone", x.count(1), -4);
        x.sheet(0, 2, 9);
        DUE.due("27 count(1)", x.count(1), 9);
        x.sheet(0, 0, 0);
        DUE.due("27 no cells", x.count(1), 0);
        for (int what : new int[] {-1, 2, HIGHEST, LOWEST}) {
            DUE.due("27 count(" + what + ")", x.count(what), -1);
        }
    }
}
