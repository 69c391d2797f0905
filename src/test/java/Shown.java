/**
 * All that can be seen of an object's rows and sheets, as a text. Asking takes the rows away: an object so asked is
 * done with. With a State made before it takes some 320 calls at most, of the 512 that an object answers.
 */
final class Shown {
    private static final int WRONG_LANE = -13;
    private static final int NOTHING = -11;
    private static final int NO_CELL = -12;

    private final CancelRows x;
    private final StringBuilder text = new StringBuilder();

    private Shown(CancelRows x) {
        this.x = x;
    }

    static String of(CancelRows x) {
        Shown shown = new Shown(x);
        shown.text.append("count ").append(x.count(0)).append(" ").append(x.count(1));
        shown.rows();
        for (int k = 0; k < 4; k++) {
            shown.sheet(k);
        }
        return shown.text.toString();
    }

    private void rows() {
        text.append(" rows");
        for (int r = 0; r < 25; r++) {
            if (x.length(r) != Sentences.BAD) {
                text.append(" ").append(r).append(":").append(x.length(r)).append("/").append(x.number(r));
            }
        }
        text.append(" drops");
        for (int i = 0; i < 26; i++) {
            int dropped = x.drop();
            text.append(" ").append(dropped);
            if (dropped < 0) {
                return;
            }
        }
    }

    private void sheet(int k) {
        text.append(" sheet ").append(k);
        for (int lane = 0; lane < 3; lane++) {
            int first = cell(k, lane, 0);
            if (first != WRONG_LANE && first != NOTHING) {
                text.append(" lane ").append(lane).append(" cells");
                cells(k, lane);
            }
        }
    }

    private void cells(int k, int lane) {
        for (int i = 0; i < 66; i++) {
            int cell = cell(k, lane, i);
            text.append(" ").append(cell);
            if (cell == NO_CELL) {
                return;
            }
        }
    }

    /** 0 for a cell that is 1, 1 for one that is -1, else what draw answers. */
    private int cell(int k, int lane, int i) {
        int r = x.draw(k, lane, i, 1);
        if (r < 0) {
            return r;
        }
        int number = (int) x.number(r);
        x.drop();
        return number;
    }
}
