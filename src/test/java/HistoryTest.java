/** Promises 8, 9, 10, 11 and 14: commits, parent, ancestors, meet and time. */
public final class HistoryTest {
    private static final int BAD = MergeVault.BAD;
    private static final int[] NO_COMMITS = {-1, -2, 9, 59, 60, 63, 64, 73, Integer.MIN_VALUE, Integer.MAX_VALUE};

    public static void main(String[] args) {
        Due due = new Due("HistoryTest");
        Run run = new Run(due, "history");
        laidHistory(run);
        parent(run);
        ancestors(run);
        meet(run);
        time(run);
        allSixty(new Run(due, "all sixty"));
        due.end();
    }

    /** 0; 1 over 0; 2 over 0; 3 over 1, 2; 4 over 2, 1; 5 alone; 6 over 5; 7 over 3, 6; 8 over 4. */
    private static void laidHistory(Run run) {
        run.commits(0);
        run.change(0, 0, 1, 0);
        run.commits(1);
        run.fork(0, 1, true);
        run.change(0, 0, 1, 1);
        run.change(1, 0, 1, 2);
        run.fork(0, 2, true);
        run.merge(1, 0, 3);
        run.merge(2, 1, 4);
        run.change(3, 0, 1, 5);
        run.change(3, 0, 1, 6);
        run.merge(3, 0, 7);
        run.commits(8);
        run.change(1, 0, 1, 8);
        run.merge(3, 0, 7);
        run.change(0, 4, 1, MergeVault.UNFIT);
        run.commits(9);
    }

    private static void parent(Run run) {
        int[][] parents = {{BAD, BAD}, {0, BAD}, {0, BAD}, {1, 2}, {2, 1}, {BAD, BAD}, {5, BAD}, {3, 6}, {4, BAD}};
        for (int commit = 0; commit < parents.length; commit++) {
            run.parent(commit, 0, parents[commit][0]);
            run.parent(commit, 1, parents[commit][1]);
        }
        for (int i : new int[] {-1, 2, Integer.MIN_VALUE, Integer.MAX_VALUE}) {
            run.parent(3, i, BAD);
        }
        for (int commit : NO_COMMITS) {
            run.parent(commit, 0, BAD);
        }
    }

    private static void ancestors(Run run) {
        int[] counts = {1, 2, 2, 4, 4, 1, 2, 7, 5};
        for (int commit = 0; commit < counts.length; commit++) {
            run.ancestors(commit, counts[commit]);
        }
        for (int commit : NO_COMMITS) {
            run.ancestors(commit, BAD);
        }
    }

    private static void meet(Run run) {
        run.meets(0, 0, 0);
        run.meets(7, 7, 7);
        run.meets(1, 2, 0);
        run.meets(0, 7, 0);
        run.meets(3, 4, 1, 2);
        run.meets(7, 8, 1, 2);
        run.meets(7, 6, 6);
        run.meets(8, 6);
        run.meets(5, 0);
        run.meets(1, 8, 1);
        for (int i : new int[] {-1, 2, 60, 64, Integer.MIN_VALUE, Integer.MAX_VALUE}) {
            run.meet(3, 4, i, BAD);
        }
        for (int commit : NO_COMMITS) {
            run.meet(commit, 0, 0, BAD);
            run.meet(0, commit, 0, BAD);
            run.meet(commit, commit, 0, BAD);
        }
    }

    private static void time(Run run) {
        for (int commit = 0; commit < 9; commit++) {
            run.time(commit, commit + 1);
        }
        for (int commit : NO_COMMITS) {
            run.time(commit, BAD);
        }
    }

    private static void allSixty(Run run) {
        run.fillUp(0, 0, 60);
        run.commits(60);
        run.change(0, 0, 1, MergeVault.FULL);
        run.commits(60);
        run.ancestors(59, 60);
        run.parent(59, 0, 58);
        run.time(59, 60);
        run.time(60, BAD);
        run.meets(59, 59, 59);
        run.meets(59, 31, 31);
        run.meets(59, 32, 32);
    }
}
