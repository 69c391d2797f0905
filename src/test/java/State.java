/** States in which calls are tried: each has the rows of the one before it and more. */
enum State {
    NEW(0), SOME(State.KINDS), ONE_LEFT(23), NONE_LEFT(24);

    /** Row numbers that every state but NEW has; the name tells the length. */
    static final int OF_4 = 0, OTHER_OF_4 = 1, OF_5 = 2, OF_1 = 3, OF_16 = 4, OTHER_OF_16 = 5, OF_17 = 6, OF_32 = 7,
        OF_8 = 8, OF_3 = 9, OF_11 = 10;
    /** A number that no row has in any state. */
    static final int NO_ROW = 24;
    static final int KINDS = 11;
    static final int CELLS_OF_1 = 40;

    private static final int[] LENGTHS = {4, 4, 5, 1, 16, 16, 17, 32, 8, 3, 11};
    private static final long[] NUMBERS = {8, 4, 2, 1, 1, 0x8000, 1, 0xF0F0F0F1L, 72, 1, 5};

    private final int rows;

    State(int rows) {
        this.rows = rows;
    }

    /**
     * Sheet 0: BYTES 1, -1, 5. Sheet 1: SHORTS, -1 at each third of 40 from 0 on, else 1, but 2 at 37 and 0 at 39.
     * Sheet 2: INTS, no cells. Sheet 3: nothing. NEW has no sheet at all.
     */
    CancelRows made() {
        CancelRows x = new CancelRows();
        for (int i = 0; i < rows; i++) {
            x.row(LENGTHS[i % KINDS], NUMBERS[i % KINDS]);
        }
        if (this != NEW) {
            laySheets(x);
        }
        return x;
    }

    private static void laySheets(CancelRows x) {
        x.sheet(0, 0, 3);
        x.lay(0, 0, 1);
        x.lay(0, 1, -1);
        x.lay(0, 2, 5);
        x.sheet(1, 1, CELLS_OF_1);
        for (int i = 0; i < CELLS_OF_1; i++) {
            x.lay(1, i, i % 3 == 0 ? -1 : 1);
        }
        x.lay(1, 37, 2);
        x.lay(1, 39, 0);
        x.sheet(2, 2, 0);
    }
}
