import com.sun.management.ThreadMXBean;
import java.lang.management.ManagementFactory;

/** That the dearest calls make no objects, as all calls of a run share one room. */
public final class RoomTest {
    private static final int CALLS = 400;
    private static final long MOST_BYTES = 20000;

    public static void main(String[] args) {
        Due due = new Due("RoomTest");
        ThreadMXBean threads = (ThreadMXBean) ManagementFactory.getThreadMXBean();
        long own = Thread.currentThread().getId();
        threads.getThreadAllocatedBytes(own);
        MergeVault vault = deepVault(due);
        long before = threads.getThreadAllocatedBytes(own);
        int refused = 0;
        for (int i = 0; i < CALLS; i++) {
            refused += vault.merge(1, 0) == MergeVault.CONFLICT - 6 ? 1 : 0;
        }
        long bytes = threads.getThreadAllocatedBytes(own) - before;
        due.is("refused mergings", refused, CALLS);
        due.holds(CALLS + " mergings made " + bytes + " bytes of objects: at most " + MOST_BYTES, bytes <= MOST_BYTES);
        due.end();
    }

    /** Pairs over pairs, each merging the one below both ways, and a conflict at the top. */
    private static MergeVault deepVault(Due due) {
        MergeVault vault = new MergeVault();
        vault.change(0, 5, 7);
        vault.fork(0, 1);
        vault.change(0, 5, 3);
        vault.change(1, 5, 4);
        for (int pair = 0; pair < 10; pair++) {
            vault.fork(0, 2);
            vault.merge(1, 0);
            vault.merge(2, 1);
        }
        vault.change(0, 10, 1);
        vault.change(1, 10, 2);
        due.is("commits", vault.commits(), 25);
        return vault;
    }
}
