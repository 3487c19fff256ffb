/** Promise 5: merge, but for how cells are merged (CellTest) and over which base (BaseTest). */
public final class MergeTest {
    public static void main(String[] args) {
        Due due = new Due("MergeTest");
        noCommitIsMade(new Run(due, "no commit is made"));
        commitIsMade(new Run(due, "a commit is made"));
        due.end();
    }

    private static void noCommitIsMade(Run run) {
        run.change(0, 0, 1, 0);
        run.merge(0, 1, 0);
        run.head(1, 0);
        run.merge(0, 0, 0);
        run.change(0, 0, 1, 1);
        run.change(0, 0, 1, 2);
        run.merge(1, 0, 2);
        run.head(0, 2);
        run.head(1, 0);
        run.merge(0, 1, 2);
        run.head(1, 2);
        run.merge(0, 1, 2);
        run.commits(3);
    }

    private static void commitIsMade(Run run) {
        run.change(0, 0, 1, 0);
        run.fork(0, 1, true);
        run.change(0, 3, 1, 1);
        run.change(1, 3, 2, 2);
        run.merge(0, 1, 3);
        run.head(1, 3);
        run.head(0, 1);
        run.parent(3, 0, 2);
        run.parent(3, 1, 1);
        run.time(3, 4);
        run.ancestors(3, 4);
        run.values(3, 1, 0, 0, 0, 6, 0, 0, 0, 0, 0);
        run.commits(4);
        // What has been merged is an ancestor from then on.
        run.merge(0, 1, 3);
        run.commits(4);
        run.merge(1, 0, 3);
        run.head(0, 3);
    }
}
