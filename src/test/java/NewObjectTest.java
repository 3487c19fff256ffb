/** Promise 1, a new object: a run for each of the four things that it says, and for objects apart. */
public final class NewObjectTest {
    private static final int BAD = MergeVault.BAD;

    public static void main(String[] args) {
        Due due = new Due("NewObjectTest");
        noCommits(due.of("No commits"));
        noHeads(due.of("no heads"));
        nothingWatched(due.of("nothing watched"));
        emptyLog(due.of("the log is empty"));
        objectsAreApart(due);
        due.end();
    }

    private static void noCommits(Run run) {
        run.commits(0);
        run.value(0, 0, BAD);
        run.queued(0, 0, BAD);
        run.parent(0, 0, BAD);
        run.ancestors(0, BAD);
        run.meet(0, 0, 0, BAD);
        run.time(0, BAD);
        run.hash(0, 0);
        run.swap(0, -1, 0, false);
        run.change(0, 0, 1, 0);
        run.time(0, 1);
    }

    private static void noHeads(Run run) {
        for (int branch = 0; branch < 4; branch++) {
            run.head(branch, BAD);
            run.swap(branch, 0, -1, false);
            run.swap(branch, -1, -1, true);
            for (int into = 0; into < 4; into++) {
                run.merge(branch, into, BAD);
            }
        }
        run.commits(0);
    }

    private static void nothingWatched(Run run) {
        for (int branch = 0; branch < 4; branch++) {
            run.change(branch, 0, 1, branch);
            run.swap(branch, branch, -1, true);
        }
        run.log();
    }

    private static void emptyLog(Run run) {
        run.events(0);
        run.event(0, BAD);
        run.event(99, BAD);
        run.watch(3, true, true);
        run.change(3, 0, 1, 0);
        run.log(7);
    }

    private static void objectsAreApart(Due due) {
        Run one = new Run(due, "the one");
        one.watch(0, true, true);
        one.change(0, 3, 4, 0);
        Run other = new Run(due, "the other");
        other.commits(0);
        other.head(0, BAD);
        other.change(0, 0, 7, 0);
        other.log();
        other.values(0, 7, 0, 0, 0, 0, 0, 0, 0, 0, 0);
        one.values(0, 0, 0, 0, 0, 16, 0, 0, 0, 0, 0);
        one.log(4);
    }
}
