/** The BASE of two commits at a depth: runs of their own for each sentence on an edge. */
public final class BaseEdgesTest {
    private static final int CONFLICT = MergeVault.CONFLICT;

    public static void main(String[] args) {
        Due due = new Due("BaseEdgesTest");
        noMeet(due.of("is the empty tree if they have no meet"));
        noMeetConflicts(due.of("is the empty tree if they have no meet"));
        noMeetBelow(due.of("is the empty tree if they have no meet"));
        oneMeet(due.of("it begins with the tree of l(0)"));
        oneAfterTheOther(due.of("for l(1), l(2), .. one after the other"), 2, 10);
        oneAfterTheOther(due.of("for l(1), l(2), .. one after the other"), 10, 2);
        baseOfTheFirstAndEach(due.of("the base of l(0) and l(i) at depth + 1"));
        intConflict(due.of("If one of these is a conflict, so is the base, at the same cell"), 2);
        intConflict(due.of("If one of these is a conflict, so is the base, at the same cell"), 10);
        queueConflict(due.of("If one of these is a conflict, so is the base, at the same cell"));
        optionConflict(due.of("If one of these is a conflict, so is the base, at the same cell"));
        baseBeforeMerging(due.of("the conflict: first of the base, then of the merging"));
        due.end();
    }

    private static void noMeet(Run run) {
        int[] whats = {0, 2, 3, 5, 7, 9, 10};
        for (int i = 0; i < whats.length; i++) {
            run.change(0, whats[i], 5, i);
        }
        run.change(1, 0, 4, 7);
        run.change(1, 3, 4, 8);
        run.change(1, 5, 4, 9);
        run.change(1, 7, 4, 10);
        run.change(1, 9, 4, 11);
        run.meets(6, 11);
        run.merge(1, 0, 12);
        run.values(12, 9, 0, 0, 5, 48, 2, 9, 1, 9, 5);
        run.queue(12, 4, 5);
    }

    private static void noMeetConflicts(Run run) {
        // Two ints that are not 0 clash over the 0 of the empty tree, but for alike ones.
        run.change(0, 2, 1, 0);
        run.change(1, 2, 2, 1);
        run.merge(1, 0, CONFLICT - 2);
        run.change(1, 2, 1, 2);
        run.fork(0, 2, true);
        run.merge(1, 2, 3);
        run.value(3, 3, 1);
        run.change(1, 2, 0, 4);
        run.merge(1, 0, 5);
        run.value(5, 3, 1);
    }

    private static void noMeetBelow(Run run) {
        // The meets 0 and 1 have none themselves, so that the base of their base is the empty tree.
        run.change(0, 0, 10, 0);
        run.change(1, 0, 100, 1);
        run.cross(2);
        run.meets(0, 1);
        run.meets(2, 3, 0, 1);
        run.merge(1, 0, 4);
        run.value(4, 0, 110);
    }

    private static void oneMeet(Run run) {
        run.change(0, 0, 1, 0);
        run.fork(0, 1, true);
        run.change(0, 0, 10, 1);
        run.change(1, 0, 100, 2);
        run.merge(1, 0, 3);
        run.value(3, 0, 111);
    }

    /**
     * Of the meets 2, 3 and 4, the first and the second clash at what late says, the first and the
     * third at what early says: the conflict with the second is told, whichever cell it is at.
     */
    private static void oneAfterTheOther(Run run, int early, int late) {
        run.change(0, 0, 1, 0);
        run.change(0, early, 1, 1);
        run.change(0, late, 1, 2);
        run.put(0, 0);
        run.change(0, late, 2, 3);
        run.put(0, 0);
        run.change(0, early, 3, 4);
        // 6 is over 2 what 3 and 4 are.
        run.put(0, 2);
        run.change(0, early, 3, 5);
        run.change(0, late, 2, 6);
        run.mergeCommits(6, 3, 7);
        run.mergeCommits(7, 4, 8);
        // 10 is over 4 what 2 is; 12, over both, is what 3 is.
        run.put(0, 4);
        run.change(0, early, 1, 9);
        run.change(0, late, 1, 10);
        run.mergeCommits(10, 2, 11);
        run.put(0, 11);
        run.change(0, late, 2, 12);
        run.mergeCommits(12, 3, 13);
        run.meets(8, 13, 2, 3, 4);
        run.mergeCommits(8, 13, CONFLICT - (late == 2 ? 2 : 6));
        run.mergeCommits(13, 8, CONFLICT - (late == 2 ? 2 : 6));
    }

    /**
     * Of the meets 1, 3 and 4, the last two are over 2, and the first with each of them over 0. What 2
     * has brought is thus twice in the base, and missing in the end.
     */
    private static void baseOfTheFirstAndEach(Run run) {
        run.change(0, 0, 1, 0);
        run.change(0, 0, 10, 1);
        run.put(0, 0);
        run.change(0, 0, 100, 2);
        run.change(0, 0, 1000, 3);
        run.put(0, 2);
        run.change(0, 0, 10000, 4);
        run.mergeCommits(1, 3, 5);
        run.mergeCommits(5, 4, 6);
        run.mergeCommits(4, 3, 7);
        run.mergeCommits(7, 1, 8);
        run.value(6, 0, 11111);
        run.value(8, 0, 11111);
        run.meets(6, 8, 1, 3, 4);
        run.meets(3, 4, 2);
        run.mergeCommits(6, 8, 9);
        run.value(9, 0, 11011);
        run.mergeCommits(8, 6, 10);
        run.value(10, 0, 11011);
    }

    private static void intConflict(Run run, int what) {
        ClashingMeets.lay(run, what);
        int conflict = CONFLICT - (what == 2 ? 2 : 6);
        run.mergeCommits(4, 6, conflict);
        run.mergeCommits(6, 4, conflict);
        // Though both heads be alike.
        run.put(0, 4);
        run.change(0, what, 9, 7);
        run.put(0, 6);
        run.change(0, what, 9, 8);
        run.mergeCommits(7, 8, conflict);
    }

    private static void queueConflict(Run run) {
        run.change(0, 0, 1, 0);
        run.fork(0, 1, true);
        run.change(0, 5, 1, 1);
        run.change(0, 5, 2, 2);
        run.change(1, 5, 2, 3);
        run.change(1, 5, 1, 4);
        run.mergeCommits(2, 4, CONFLICT - 4);
        run.change(0, 6, 0, 5);
        run.change(1, 6, 0, 6);
        run.mergeCommits(5, 4, 7);
        run.queue(7, 2, 1);
        run.mergeCommits(6, 2, 8);
        run.queue(8, 1, 2);
        run.meets(7, 8, 2, 4);
        run.mergeCommits(7, 8, CONFLICT - 4);
    }

    private static void optionConflict(Run run) {
        run.change(0, 7, 7, 0);
        run.fork(0, 1, true);
        run.change(0, 7, 1, 1);
        run.change(1, 8, 0, 2);
        run.mergeCommits(1, 2, CONFLICT - 5);
        run.change(0, 8, 0, 3);
        run.change(1, 7, 8, 4);
        run.mergeCommits(3, 2, 5);
        run.value(5, 7, 0);
        run.mergeCommits(4, 1, 6);
        run.value(6, 6, 9);
        run.meets(5, 6, 1, 2);
        run.mergeCommits(5, 6, CONFLICT - 5);
    }

    private static void baseBeforeMerging(Run run) {
        ClashingMeets.lay(run, 10);
        // Plain, an earlier cell, clashes in the merging itself.
        run.put(0, 4);
        run.change(0, 2, 5, 7);
        run.put(0, 6);
        run.change(0, 2, 6, 8);
        run.mergeCommits(7, 8, CONFLICT - 6);
    }
}
