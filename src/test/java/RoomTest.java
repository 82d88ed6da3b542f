import com.sun.management.ThreadMXBean;
import java.lang.management.ManagementFactory;

/** All calls of a run share one room, so objects are made by the constructor alone. */
public final class RoomTest {
    private static final int ROUNDS = 200;
    /** Far below one small object a call, and above what the machine itself may need. */
    private static final int SPARE_BYTES = 64 * 1024;

    public static void main(String[] args) {
        Due due = new Due();
        ThreadMXBean threads = (ThreadMXBean) ManagementFactory.getThreadMXBean();
        SureMendings x = new SureMendings();
        manyCalls(x);
        long before = threads.getCurrentThreadAllocatedBytes();
        int calls = 0;
        for (int round = 0; round < ROUNDS; round++) {
            calls += manyCalls(x);
        }
        long made = threads.getCurrentThreadAllocatedBytes() - before;
        due.same("calls that make objects", made < SPARE_BYTES ? "none" : made + " bytes in " + calls, "none");
        due.finish();
    }

    /** Calls of every method; the table is doubled, full and empty in between. */
    private static int manyCalls(SureMendings x) {
        int calls = 0;
        for (int key = 0; key < 10; key++) {
            x.add(key, 'a', key, (key + 1) % 10);
            x.add(key, 'b', key, SureMendings.NONE);
            calls += 2;
        }
        for (int what = 0; what < 12; what++) {
            x.count(what);
            x.row(what, what % 6);
            x.key(what % 10, what % 5);
            x.value('a', what % 5);
            x.way(0, 9, what % 5);
            x.kept(what, what % 10);
            x.sum(what % 4);
            x.bestMended(0, 1, what % 2);
            calls += 8;
        }
        x.prefer(true);
        x.keep();
        x.mendAll(2);
        x.mend(0);
        x.restore();
        x.undo();
        x.mend(0);
        x.prefer(false);
        for (int row = 19; row >= 0; row--) {
            x.remove(row);
            calls++;
        }
        x.type('0');
        x.type('=');
        x.type('a');
        x.readRows();
        x.clearText();
        x.remove(0);
        return calls + 14;
    }
}
