/** Promises 3, 4, 6, 7, 16 and 17: fork, swap, watch, head, events and event. */
public final class BranchTest {
    private static final int BAD = MergeVault.BAD;

    public static void main(String[] args) {
        Due due = new Due("BranchTest");
        fork(new Run(due, "fork"));
        swap(new Run(due, "swap"));
        head(new Run(due, "head"));
        watch(new Run(due, "watch"));
        events(new Run(due, "events"));
        onlyOtherHeadsAreEvents(new Run(due, "only other heads are events"));
        due.end();
    }

    private static void fork(Run run) {
        run.change(0, 0, 1, 0);
        run.change(1, 0, 1, 1);
        run.fork(0, 3, true);
        run.head(3, 0);
        run.head(0, 0);
        run.fork(0, 1, true);
        run.head(1, 0);
        run.fork(2, 0, true);
        run.head(0, BAD);
        run.head(1, 0);
        run.fork(1, 1, true);
        run.head(1, 0);
        run.fork(2, 2, true);
        run.head(2, BAD);
        run.fork(-1, 1, false);
        run.fork(4, 1, false);
        run.fork(1, -1, false);
        run.fork(1, 4, false);
        run.fork(Integer.MIN_VALUE, Integer.MAX_VALUE, false);
        run.head(1, 0);
        run.commits(2);
    }

    private static void swap(Run run) {
        run.change(0, 0, 1, 0);
        run.change(0, 0, 1, 1);
        run.change(0, 0, 1, 2);
        run.swap(0, 2, 1, true);
        run.head(0, 1);
        run.swap(0, 2, 0, false);
        run.swap(0, -1, 0, false);
        run.swap(0, -2, 0, false);
        run.head(0, 1);
        run.swap(0, 1, 3, false);
        run.swap(0, 1, -2, false);
        run.swap(0, 1, Integer.MAX_VALUE, false);
        run.swap(0, 1, Integer.MIN_VALUE, false);
        run.head(0, 1);
        run.swap(0, 1, -1, true);
        run.head(0, BAD);
        run.swap(0, 1, 2, false);
        run.swap(0, -2, 2, false);
        run.swap(0, -1, -1, true);
        run.swap(0, -1, 2, true);
        run.head(0, 2);
        run.swap(0, 2, 2, true);
        run.head(0, 2);
        run.swap(3, -1, 0, true);
        run.head(3, 0);
        run.swap(4, -1, 0, false);
        run.swap(-1, -1, 0, false);
        run.commits(3);
    }

    private static void head(Run run) {
        run.head(0, BAD);
        run.change(3, 0, 1, 0);
        run.head(3, 0);
        run.head(0, BAD);
        run.head(4, BAD);
        run.head(-1, BAD);
        run.head(Integer.MIN_VALUE, BAD);
        run.head(Integer.MAX_VALUE, BAD);
    }

    private static void watch(Run run) {
        run.watch(-1, true, false);
        run.watch(4, true, false);
        run.watch(-1, false, false);
        run.watch(4, false, false);
        run.watch(3, false, true);
        run.watch(3, true, true);
        run.watch(3, true, true);
        run.change(3, 0, 1, 0);
        run.change(2, 0, 1, 1);
        run.change(0, 0, 1, 2);
        run.log(3 + 4);
        run.watch(3, false, true);
        run.change(3, 0, 1, 3);
        run.log(7);
        run.watch(0, true, true);
        run.watch(3, true, true);
        // Watching is no event by itself, and what happened unwatched is not told later.
        run.log(7);
        run.change(3, 0, 1, 4);
        run.change(0, 0, 1, 5);
        run.log(7, 3 + 4 * 5, 4 * 6);
    }

    private static void events(Run run) {
        for (int branch = 0; branch < 4; branch++) {
            run.watch(branch, true, true);
        }
        run.change(0, 0, 1, 0);
        run.fork(0, 1, true);
        run.change(1, 0, 1, 1);
        run.merge(1, 0, 1);
        run.merge(0, 2, 1);
        run.swap(2, 1, 0, true);
        run.swap(2, 0, -1, true);
        run.fork(2, 1, true);
        run.swap(3, -1, 0, true);
        run.change(3, 0, 1, 2);
        run.merge(3, 0, 3);
        run.log(4, 5, 9, 8, 10, 6, 2, 1, 7, 15, 16);
        run.event(-1, BAD);
        run.event(Integer.MIN_VALUE, BAD);
        run.event(Integer.MAX_VALUE, BAD);
        run.event(100, BAD);
    }

    private static void onlyOtherHeadsAreEvents(Run run) {
        run.watch(0, true, true);
        run.watch(1, true, true);
        run.fork(2, 0, true);
        run.fork(0, 1, true);
        run.swap(0, -1, -1, true);
        run.log();
        run.change(0, 0, 1, 0);
        run.fork(0, 0, true);
        run.swap(0, 0, 0, true);
        run.merge(0, 0, 0);
        run.log(4);
        run.fork(0, 1, true);
        run.fork(0, 1, true);
        run.merge(1, 0, 0);
        run.log(4, 5);
        run.change(0, 2, 5, 1);
        run.merge(1, 0, 1);
        run.change(1, 2, 6, 2);
        run.log(4, 5, 8, 13);
        run.merge(1, 0, MergeVault.CONFLICT - 2);
        run.swap(0, 0, 2, false);
        run.fork(0, 4, false);
        run.log(4, 5, 8, 13);
    }
}
