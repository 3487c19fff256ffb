/** BRANCHES, and promises 3, 4, 6 and 7: a run for each sentence on an edge. */
public final class BranchEdgesTest {
    private static final int BAD = MergeVault.BAD;
    private static final int[] NO_BRANCHES = {-1, 4, -4, 5, 8, Integer.MIN_VALUE, Integer.MAX_VALUE};

    public static void main(String[] args) {
        Due due = new Due("BranchEdgesTest");
        allFour(due.of("BRANCHES 0 .. 3 have a HEAD, a commit, or none, as at first"));
        forkOfNone(due.of("The head of a branch becomes that of another one (which may be none): true"));
        forkOfItself(due.of("The head of a branch becomes that of another one (which may be none): true"));
        forkOfNoBranch(due.of("false when one is not 0 .. 3"));
        swapToNone(due.of("The head of a branch becomes commit next (none for -1)"));
        swapFromNone(due.of("if it is commit expected now (none for -1): true"));
        swapToTheSame(due.of("if it is commit expected now (none for -1): true"));
        swapOfNoBranch(due.of("false when branch is not 0 .. 3"));
        swapToNoCommit(due.of("next is not -1 and no commit"));
        swapFromAnother(due.of("or the head is another one"));
        watchNoMore(due.of("Watches a branch, or does so no more: true"));
        watchOfNoBranch(due.of("true; false when branch is not 0 .. 3"));
        unwatchOfNoBranch(due.of("true; false when branch is not 0 .. 3"));
        headOfNoBranch(due.of("BAD when branch is not 0 .. 3 or has none"));
        noHead(due.of("BAD when branch is not 0 .. 3 or has none"));
        due.end();
    }

    /** The heads of all branches, -1 for none. */
    private static void heads(Run run, int... wants) {
        for (int branch = 0; branch < 4; branch++) {
            run.head(branch, wants[branch]);
        }
    }

    private static void allFour(Run run) {
        heads(run, -1, -1, -1, -1);
        run.change(3, 0, 1, 0);
        heads(run, -1, -1, -1, 0);
        run.change(0, 0, 1, 1);
        heads(run, 1, -1, -1, 0);
        run.change(1, 0, 1, 2);
        run.change(2, 0, 1, 3);
        heads(run, 1, 2, 3, 0);
    }

    private static void forkOfNone(Run run) {
        run.fork(0, 3, true);
        heads(run, -1, -1, -1, -1);
        run.change(3, 0, 1, 0);
        run.fork(3, 0, true);
        heads(run, 0, -1, -1, 0);
        run.fork(1, 3, true);
        heads(run, 0, -1, -1, -1);
        run.change(3, 0, 1, 1);
        run.parent(1, 0, BAD);
    }

    private static void forkOfItself(Run run) {
        run.fork(2, 2, true);
        run.change(2, 0, 1, 0);
        run.fork(2, 2, true);
        heads(run, -1, -1, 0, -1);
    }

    private static void forkOfNoBranch(Run run) {
        run.change(0, 0, 1, 0);
        run.change(3, 0, 1, 1);
        for (int branch : NO_BRANCHES) {
            run.fork(branch, 0, false);
            run.fork(branch, 1, false);
            run.fork(0, branch, false);
            run.fork(1, branch, false);
            run.fork(branch, branch, false);
        }
        heads(run, 0, -1, -1, 1);
        run.fork(3, 0, true);
        run.fork(0, 2, true);
        heads(run, 1, -1, 1, 1);
    }

    private static void swapToNone(Run run) {
        run.change(0, 0, 1, 0);
        run.fork(0, 1, true);
        run.swap(0, 0, -1, true);
        heads(run, -1, 0, -1, -1);
        run.swap(0, -1, -1, true);
        heads(run, -1, 0, -1, -1);
    }

    private static void swapFromNone(Run run) {
        run.swap(3, -1, -1, true);
        run.change(0, 0, 1, 0);
        run.swap(3, -1, 0, true);
        heads(run, 0, -1, -1, 0);
        run.swap(3, -1, 0, false);
        run.swap(3, -1, -1, false);
        run.swap(2, 0, 0, false);
        run.swap(2, 0, -1, false);
        heads(run, 0, -1, -1, 0);
    }

    private static void swapToTheSame(Run run) {
        run.change(0, 0, 1, 0);
        run.swap(0, 0, 0, true);
        heads(run, 0, -1, -1, -1);
    }

    private static void swapOfNoBranch(Run run) {
        run.change(0, 0, 1, 0);
        for (int branch : NO_BRANCHES) {
            run.swap(branch, -1, 0, false);
            run.swap(branch, -1, -1, false);
            run.swap(branch, 0, 0, false);
            run.swap(branch, 0, 1, false);
        }
        heads(run, 0, -1, -1, -1);
    }

    private static void swapToNoCommit(Run run) {
        run.swap(0, -1, 0, false);
        run.change(0, 0, 1, 0);
        for (int next : new int[] {1, -2, 59, 60, Integer.MIN_VALUE, Integer.MAX_VALUE}) {
            run.swap(0, 0, next, false);
            run.swap(1, -1, next, false);
            run.swap(0, next, next, false);
        }
        heads(run, 0, -1, -1, -1);
        run.fillUp(0, 1, 60);
        run.swap(0, 59, 60, false);
        run.swap(1, -1, 59, true);
        heads(run, 59, 59, -1, -1);
    }

    private static void swapFromAnother(Run run) {
        run.fillUp(0, 0, 2);
        // Commits, none, and numbers that are no commit's.
        for (int expected : new int[] {0, -1, 2, -2, Integer.MIN_VALUE, Integer.MAX_VALUE}) {
            run.swap(0, expected, 0, false);
            run.swap(0, expected, -1, false);
            run.swap(0, expected, 1, false);
        }
        for (int expected : new int[] {0, 1, 2, -2, Integer.MIN_VALUE, Integer.MAX_VALUE}) {
            run.swap(1, expected, 0, false);
            run.swap(1, expected, -1, false);
        }
        heads(run, 1, -1, -1, -1);
    }

    private static void watchNoMore(Run run) {
        // Not watched yet, watched already, and watched no more already.
        run.watch(0, false, true);
        run.change(0, 0, 1, 0);
        run.log();
        run.watch(0, true, true);
        run.watch(0, true, true);
        run.change(0, 0, 1, 1);
        run.log(8);
        run.watch(0, false, true);
        run.watch(0, false, true);
        run.change(0, 0, 1, 2);
        run.log(8);
    }

    private static void watchOfNoBranch(Run run) {
        for (int branch : NO_BRANCHES) {
            run.watch(branch, true, false);
        }
        for (int branch = 0; branch < 4; branch++) {
            run.change(branch, 0, 1, branch);
        }
        run.log();
    }

    private static void unwatchOfNoBranch(Run run) {
        for (int branch = 0; branch < 4; branch++) {
            run.watch(branch, true, true);
        }
        for (int branch : NO_BRANCHES) {
            run.watch(branch, false, false);
        }
        for (int branch = 0; branch < 4; branch++) {
            run.change(branch, 0, 1, branch);
        }
        run.log(4, 9, 14, 19);
    }

    private static void headOfNoBranch(Run run) {
        for (int branch = 0; branch < 4; branch++) {
            run.change(branch, 0, 1, branch);
        }
        for (int branch : NO_BRANCHES) {
            run.head(branch, BAD);
        }
        heads(run, 0, 1, 2, 3);
    }

    private static void noHead(Run run) {
        run.head(0, BAD);
        run.change(0, 0, 1, 0);
        run.head(0, 0);
        run.head(1, BAD);
        run.swap(0, 0, -1, true);
        run.head(0, BAD);
    }
}
