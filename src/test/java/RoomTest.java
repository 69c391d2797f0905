import com.sun.management.ThreadMXBean;
import java.lang.management.ManagementFactory;

/** A run of 512 of the calls that make most stays far within the room of a run: here, 1 million bytes. */
public final class RoomTest {
    private static final Due DUE = new Due();
    private static final int CALLS = 512;
    private static final long ROOM = 1000000;

    public static void main(String[] args) {
        ThreadMXBean bean = (ThreadMXBean) ManagementFactory.getThreadMXBean();
        for (int kind = 0; kind < 6; kind++) {
            run(kind);
            long before = bean.getCurrentThreadAllocatedBytes();
            run(kind);
            long made = bean.getCurrentThreadAllocatedBytes() - before;
            DUE.holds("kind " + kind + " made " + made + " bytes", made >= 0 && made < ROOM);
        }
        DUE.end();
    }

    private static void run(int kind) {
        CancelRows x = new CancelRows();
        for (int i = 0; i < CALLS; i++) {
            call(x, kind, i);
        }
    }

    private static int call(CancelRows x, int kind, int i) {
        switch (kind) {
            case 0:
                return x.sheet(i % 4, i % 3, 64);
            case 1:
                return x.best(1 + i % 14, i / 14 % 2, i % 4);
            case 2:
                return x.pair(1 + i % 8, i / 8);
            case 3:
                return x.squares(1000 - i, 4);
            case 4:
                return i % 2 == 0 ? x.told(32) : x.drop();
            default:
                return i == 0 ? x.row(32, 0x12345678L) : x.about(0, 4);
        }
    }
}
