/** Promise 5: merge, but for how cells are merged (CellTest) and over which base (BaseTest). */
public final class MergeTest {
    private static final int BAD = MergeVault.BAD;
    private static final int FULL = MergeVault.FULL;
    private static final int CONFLICT = MergeVault.CONFLICT;

    public static void main(String[] args) {
        Due due = new Due("MergeTest");
        wrongInputs(new Run(due, "wrong inputs"));
        noCommitIsMade(new Run(due, "no commit is made"));
        commitIsMade(new Run(due, "a commit is made"));
        conflictChangesNothing(new Run(due, "a conflict changes nothing"));
        full(new Run(due, "full"));
        due.end();
    }

    private static void wrongInputs(Run run) {
        run.change(0, 0, 1, 0);
        run.merge(-1, 0, BAD);
        run.merge(4, 0, BAD);
        run.merge(0, -1, BAD);
        run.merge(0, 4, BAD);
        run.merge(Integer.MAX_VALUE, Integer.MIN_VALUE, BAD);
        run.merge(1, 0, BAD);
        run.merge(1, 1, BAD);
        run.merge(1, 2, BAD);
        run.head(0, 0);
        run.head(1, BAD);
        run.head(2, BAD);
        run.commits(1);
    }

    private static void noCommitIsMade(Run run) {
        run.change(0, 0, 1, 0);
        run.merge(0, 1, 0);
        run.head(1, 0);
        run.merge(0, 0, 0);
        run.change(0, 0, 1, 1);
        run.change(0, 0, 1, 2);
        run.merge(1, 0, 2);
        run.head(0, 2);
        run.head(1, 0);
        run.merge(0, 1, 2);
        run.head(1, 2);
        run.merge(0, 1, 2);
        run.commits(3);
    }

    private static void commitIsMade(Run run) {
        run.change(0, 0, 1, 0);
        run.fork(0, 1, true);
        run.change(0, 3, 1, 1);
        run.change(1, 3, 2, 2);
        run.merge(0, 1, 3);
        run.head(1, 3);
        run.head(0, 1);
        run.parent(3, 0, 2);
        run.parent(3, 1, 1);
        run.time(3, 4);
        run.ancestors(3, 4);
        run.values(3, 1, 0, 0, 0, 6, 0, 0, 0, 0, 0);
        run.commits(4);
        // What has been merged is an ancestor from then on.
        run.merge(0, 1, 3);
        run.commits(4);
        run.merge(1, 0, 3);
        run.head(0, 3);
    }

    private static void conflictChangesNothing(Run run) {
        run.watch(0, true, true);
        run.change(0, 2, 1, 0);
        run.change(1, 2, 2, 1);
        run.change(1, 0, 5, 2);
        run.merge(1, 0, CONFLICT - 2);
        run.merge(0, 1, CONFLICT - 2);
        run.commits(3);
        run.head(0, 0);
        run.head(1, 2);
        run.values(0, 0, 0, 0, 1, 0, 0, 0, 0, 0, 0);
        run.values(2, 5, 0, 0, 2, 0, 0, 0, 0, 0, 0);
        run.log(4);
        run.change(0, 0, 1, 3);
        run.values(3, 1, 0, 0, 1, 0, 0, 0, 0, 0, 0);
    }

    private static void full(Run run) {
        run.change(0, 0, 1, 0);
        run.fork(0, 1, true);
        run.fork(0, 3, true);
        run.change(1, 2, 5, 1);
        run.change(0, 2, 6, 2);
        run.change(0, 0, 6, 3);
        run.change(2, 0, 1, 4);
        run.fillUp(2, 5, 60);
        run.merge(2, 0, FULL);
        // FULL comes before the conflict at plain, but only when a commit is to be made.
        run.merge(1, 0, FULL);
        run.merge(4, 0, BAD);
        run.merge(3, 0, 3);
        run.merge(0, 3, 3);
        run.head(3, 3);
        run.swap(3, 3, -1, true);
        run.merge(3, 0, BAD);
        run.merge(2, 3, 59);
        run.head(0, 3);
        run.head(1, 1);
        run.commits(60);
    }
}
