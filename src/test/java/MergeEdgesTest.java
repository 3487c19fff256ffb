/** Promise 5, but for its base and its cells: a run for each sentence on an edge. */
public final class MergeEdgesTest {
    private static final int BAD = MergeVault.BAD;
    private static final int FULL = MergeVault.FULL;
    private static final int CONFLICT = MergeVault.CONFLICT;
    private static final int[] NO_BRANCHES = {-1, 4, -4, 5, 8, Integer.MIN_VALUE, Integer.MAX_VALUE};

    public static void main(String[] args) {
        Due due = new Due("MergeEdgesTest");
        intoHasNone(due.of("If into's head is none or an ancestor of from's, it becomes from's"));
        intoIsBehind(due.of("If into's head is none or an ancestor of from's, it becomes from's"));
        sameHead(due.of("If into's head is none or an ancestor of from's, it becomes from's"));
        fromIsBehind(due.of("if from's head is an ancestor of into's, nothing is done"));
        parentsInOrder(due.of("these two as parents (into's first) becomes into's head"));
        noBranch(due.of("BAD when one is not 0 .. 3"));
        fromHasNone(due.of("or from has no head"));
        full(due.of("FULL, when a commit is to be made"));
        fullButNoCommitToBeMade(due.of("FULL, when a commit is to be made"));
        badBeforeFull(due.of("Refusals are tested in the order in which they are named"));
        fullBeforeConflict(due.of("Refusals are tested in the order in which they are named"), false);
        fullBeforeConflict(due.of("Refusals are tested in the order in which they are named"), true);
        due.end();
    }

    private static void intoHasNone(Run run) {
        run.change(0, 0, 1, 0);
        run.merge(0, 3, 0);
        run.head(3, 0);
        run.swap(3, 0, -1, true);
        run.change(0, 0, 1, 1);
        run.merge(0, 3, 1);
        run.head(3, 1);
        run.commits(2);
    }

    private static void intoIsBehind(Run run) {
        run.fillUp(0, 0, 5);
        for (int behind = 0; behind < 4; behind++) {
            run.put(1, behind);
            run.merge(0, 1, 4);
            run.head(1, 4);
        }
        // An ancestor by way of a second parent.
        run.change(2, 0, 1, 5);
        run.fork(2, 3, true);
        run.merge(2, 0, 6);
        run.merge(0, 3, 6);
        run.head(3, 6);
        run.commits(7);
    }

    private static void sameHead(Run run) {
        run.change(0, 0, 1, 0);
        run.merge(0, 0, 0);
        run.fork(0, 1, true);
        run.merge(0, 1, 0);
        run.head(0, 0);
        run.head(1, 0);
        run.commits(1);
    }

    private static void fromIsBehind(Run run) {
        run.fillUp(0, 0, 5);
        for (int behind = 0; behind < 5; behind++) {
            run.put(1, behind);
            run.merge(1, 0, 4);
            run.head(1, behind);
            run.head(0, 4);
        }
        run.change(2, 0, 1, 5);
        run.merge(2, 0, 6);
        run.merge(2, 0, 6);
        run.head(2, 5);
        run.commits(7);
    }

    private static void parentsInOrder(Run run) {
        run.change(0, 0, 1, 0);
        run.change(1, 0, 1, 1);
        run.merge(0, 1, 2);
        run.parent(2, 0, 1);
        run.parent(2, 1, 0);
        run.head(1, 2);
        run.head(0, 0);
    }

    private static void noBranch(Run run) {
        run.change(0, 0, 1, 0);
        run.change(3, 0, 1, 1);
        for (int branch : NO_BRANCHES) {
            run.merge(branch, 0, BAD);
            run.merge(0, branch, BAD);
            run.merge(1, branch, BAD);
            run.merge(branch, 1, BAD);
            run.merge(branch, branch, BAD);
        }
        run.commits(2);
        run.merge(0, 3, 2);
    }

    private static void fromHasNone(Run run) {
        run.merge(0, 1, BAD);
        run.merge(0, 0, BAD);
        run.change(0, 0, 1, 0);
        run.merge(1, 0, BAD);
        run.merge(1, 2, BAD);
        run.merge(1, 1, BAD);
        run.head(0, 0);
        run.swap(0, 0, -1, true);
        run.merge(0, 1, BAD);
        run.head(1, BAD);
    }

    private static void full(Run run) {
        run.change(0, 0, 1, 0);
        run.change(1, 0, 1, 1);
        run.fillUp(2, 2, 59);
        run.merge(0, 1, 59);
        run.merge(2, 1, FULL);
        run.merge(2, 0, FULL);
        run.merge(0, 2, FULL);
        run.head(0, 0);
        run.head(1, 59);
        run.head(2, 58);
        run.commits(60);
    }

    private static void fullButNoCommitToBeMade(Run run) {
        run.fillUp(0, 0, 60);
        run.merge(0, 1, 59);
        run.merge(0, 1, 59);
        run.put(1, 5);
        run.merge(1, 0, 59);
        run.head(0, 59);
        run.merge(0, 1, 59);
        run.head(1, 59);
        run.merge(0, 0, 59);
        run.commits(60);
    }

    private static void badBeforeFull(Run run) {
        run.change(1, 0, 1, 0);
        run.fillUp(0, 1, 60);
        run.merge(1, 0, FULL);
        run.merge(4, 0, BAD);
        run.merge(-1, 0, BAD);
        run.merge(1, 4, BAD);
        run.merge(1, -1, BAD);
        run.merge(2, 0, BAD);
        run.merge(2, 3, BAD);
    }

    /** The conflict is one of the merging, or of the base of 6 and 4, whose meets 1 and 2 clash. */
    private static void fullBeforeConflict(Run run, boolean ofTheBase) {
        ClashingMeets.lay(run, 2);
        int ours = ofTheBase ? 6 : 1;
        int theirs = ofTheBase ? 4 : 2;
        run.fillUp(0, 7, 59);
        run.mergeCommits(ours, theirs, CONFLICT - 2);
        run.change(0, 0, 1, 59);
        run.mergeCommits(ours, theirs, FULL);
    }
}
