/** Promise 1: a new object. */
public final class NewObjectTest {
    private static final int BAD = MergeVault.BAD;

    public static void main(String[] args) {
        Due due = new Due("NewObjectTest");
        nothingIsThere(new Run(due, "nothing is there"));
        nothingIsWatched(new Run(due, "nothing is watched"));
        objectsAreApart(due);
        due.end();
    }

    private static void nothingIsThere(Run run) {
        run.commits(0);
        for (int branch = 0; branch < 4; branch++) {
            run.head(branch, BAD);
        }
        run.log();
        run.value(0, 0, BAD);
        run.queued(0, 0, BAD);
        run.parent(0, 0, BAD);
        run.ancestors(0, BAD);
        run.meet(0, 0, 0, BAD);
        run.time(0, BAD);
        run.hash(0, 0);
        run.merge(0, 1, BAD);
        run.merge(2, 2, BAD);
        run.swap(0, -1, 0, false);
        run.commits(0);
    }

    private static void nothingIsWatched(Run run) {
        for (int branch = 0; branch < 4; branch++) {
            run.change(branch, 0, 1, branch);
            run.swap(branch, branch, -1, true);
        }
        run.log();
    }

    private static void objectsAreApart(Due due) {
        Run one = new Run(due, "the one");
        one.watch(0, true, true);
        one.change(0, 3, 4, 0);
        Run other = new Run(due, "the other");
        other.commits(0);
        other.head(0, BAD);
        other.change(0, 0, 7, 0);
        other.log();
        other.values(0, 7, 0, 0, 0, 0, 0, 0, 0, 0, 0);
        one.values(0, 0, 0, 0, 0, 16, 0, 0, 0, 0, 0);
        one.log(4);
    }
}
