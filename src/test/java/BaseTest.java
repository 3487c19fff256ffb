/** Promise 5, the base over which two heads are merged: no meet, one, several, and the depth. */
public final class BaseTest {
    private static final int CONFLICT = MergeVault.CONFLICT;

    public static void main(String[] args) {
        Due due = new Due("BaseTest");
        noMeet(new Run(due, "no meet"));
        oneMeet(new Run(due, "one meet"));
        twoMeets(new Run(due, "two meets"));
        threeMeets(new Run(due, "three meets"));
        threeMeetsOverTheEmptyTree(new Run(due, "three meets over the empty tree"));
        conflictOfTheBase(new Run(due, "conflict of the base"), 2);
        conflictOfTheBase(new Run(due, "conflict of the base"), 10);
        conflictOfTheBaseComesFirst(new Run(due, "conflict of the base comes first"));
        queueConflictOfTheBase(new Run(due, "queue conflict of the base"));
        conflictOfADeeperBase(new Run(due, "conflict of a deeper base"));
        depth(new Run(due, "depth"), 100);
        depth(new Run(due, "depth"), -7);
        due.end();
    }

    private static void noMeet(Run run) {
        run.change(0, 0, 10, 0);
        run.change(1, 0, 3, 1);
        run.change(1, 2, 5, 2);
        run.merge(1, 0, 3);
        run.values(3, 13, 0, 0, 5, 0, 0, 0, 0, 0, 0);
        run.meets(0, 2);
    }

    private static void oneMeet(Run run) {
        run.change(0, 0, 1, 0);
        run.change(0, 0, 10, 1);
        run.fork(0, 1, true);
        run.change(0, 0, 100, 2);
        run.change(1, 0, 1000, 3);
        run.merge(1, 0, 4);
        run.value(4, 0, 1111);
        // The base is now commit 3, and no more commit 1.
        run.change(1, 0, 10000, 5);
        run.merge(1, 0, 6);
        run.value(6, 0, 11111);
        run.meets(4, 5, 3);
    }

    private static void twoMeets(Run run) {
        run.change(0, 2, 1, 0);
        run.fork(0, 1, true);
        run.change(0, 2, 7, 1);
        run.change(1, 10, 8, 2);
        run.fork(0, 2, true);
        run.merge(1, 0, 3);
        run.merge(2, 1, 4);
        run.meets(3, 4, 1, 2);
        // Over commit 1 alone pair's int would have changed on both sides, over 2 alone plain.
        run.change(0, 2, 70, 5);
        run.change(1, 10, 80, 6);
        run.merge(1, 0, 7);
        run.values(7, 0, 0, 0, 70, 0, 0, 0, 0, 0, 80);
    }

    private static void threeMeets(Run run) {
        run.change(0, 0, 1, 0);
        run.fork(0, 1, true);
        run.fork(0, 2, true);
        run.change(0, 0, 10, 1);
        run.change(1, 0, 100, 2);
        run.change(2, 0, 1000, 3);
        threeMeetsMerged(run, 4);
        run.value(8, 0, 11111);
        run.value(9, 0, 101111);
        run.meets(8, 9, 1, 2, 3);
        run.value(10, 0, 111111);
    }

    private static void threeMeetsOverTheEmptyTree(Run run) {
        run.change(0, 0, 10, 0);
        run.change(1, 0, 100, 1);
        run.change(2, 0, 1000, 2);
        threeMeetsMerged(run, 3);
        run.meets(7, 8, 0, 1, 2);
        run.value(9, 0, 111110);
    }

    /** Heads a, b, c of the branches 0, 1, 2 are merged on 0 as (a, b), c and on 2 as (c, b), a. */
    private static void threeMeetsMerged(Run run, int next) {
        run.fork(0, 3, true);
        run.merge(1, 0, next);
        run.merge(2, 0, next + 1);
        run.merge(1, 2, next + 2);
        run.merge(3, 2, next + 3);
        run.change(0, 0, 10000, next + 4);
        run.change(2, 0, 100000, next + 5);
        run.merge(2, 0, next + 6);
    }

    /**
     * Commits 1 and 2 over 0 clash; 3 over 1 and 4 over 2 have come round to the other one. Commit 5
     * of 3 and 2 and commit 6 of 4 and 1 are the heads of branches 2 and 3.
     */
    private static void clashingMeets(Run run, int what) {
        run.change(0, 0, 1, 0);
        run.fork(0, 1, true);
        run.change(0, what, 1, 1);
        run.change(1, what, 2, 2);
        run.fork(0, 2, true);
        run.fork(1, 3, true);
        run.change(2, what, 2, 3);
        run.change(3, what, 1, 4);
        run.merge(1, 2, 5);
        run.merge(0, 3, 6);
        run.meets(5, 6, 1, 2);
    }

    private static void conflictOfTheBase(Run run, int what) {
        clashingMeets(run, what);
        run.merge(2, 3, CONFLICT - (what == 2 ? 2 : 6));
        run.merge(3, 2, CONFLICT - (what == 2 ? 2 : 6));
        run.head(2, 5);
        run.head(3, 6);
        run.commits(7);
        // Though the heads be alike, as their base is none.
        run.change(2, what, 9, 7);
        run.change(3, what, 9, 8);
        run.merge(2, 3, CONFLICT - (what == 2 ? 2 : 6));
    }

    private static void conflictOfTheBaseComesFirst(Run run) {
        clashingMeets(run, 10);
        // Plain, an earlier cell, clashes in the merging itself.
        run.change(2, 2, 5, 7);
        run.change(3, 2, 6, 8);
        run.merge(2, 3, CONFLICT - 6);
    }

    private static void queueConflictOfTheBase(Run run) {
        run.change(0, 0, 1, 0);
        run.fork(0, 1, true);
        run.change(0, 5, 1, 1);
        run.change(0, 5, 2, 2);
        run.change(1, 5, 2, 3);
        run.change(1, 5, 1, 4);
        run.fork(0, 2, true);
        run.fork(1, 3, true);
        run.merge(1, 0, CONFLICT - 4);
        run.change(2, 6, 0, 5);
        run.change(3, 6, 0, 6);
        run.merge(1, 2, 7);
        run.queue(7, 2, 1);
        run.merge(0, 3, 8);
        run.queue(8, 1, 2);
        run.meets(7, 8, 2, 4);
        run.merge(3, 2, CONFLICT - 4);
    }

    /**
     * Commits 5 and 6 have clashing meets, 1 and 2, but 8 and 10 join them over other meets, so that
     * only the base of the base of 8 and 10 is a conflict.
     */
    private static void conflictOfADeeperBase(Run run) {
        clashingMeets(run, 2);
        run.swap(0, 1, 4, true);
        run.fork(2, 1, true);
        run.merge(0, 1, 7);
        run.merge(3, 1, 8);
        run.swap(0, 4, 3, true);
        run.merge(0, 3, 9);
        run.merge(2, 3, 10);
        run.meets(7, 6, 1, 4);
        run.meets(9, 5, 2, 3);
        run.meets(8, 10, 5, 6);
        run.merge(3, 1, CONFLICT - 2);
        run.merge(1, 3, CONFLICT - 2);
        run.commits(11);
    }

    /**
     * Commits 1 and 2 over 0, then pairs (3, 4), (5, 6) .. that each merge the pair below both ways.
     * The pair (11, 12) has 1 and 2 five pairs below it, where depth 4 has the tree of 1 alone: what
     * 2 has brought is missing there, and counted once too often in the end.
     */
    private static void depth(Run run, int brought) {
        run.change(0, 0, 1, 0);
        run.fork(0, 1, true);
        run.change(0, 0, 10, 1);
        run.change(1, 0, brought, 2);
        for (int pair = 3; pair <= 11; pair += 2) {
            run.fork(0, 2, true);
            run.merge(1, 0, pair);
            run.merge(2, 1, pair + 1);
            run.value(pair, 0, 11 + brought);
            run.value(pair + 1, 0, 11 + brought);
            run.meets(pair, pair + 1, pair - 2, pair - 1);
        }
        run.merge(1, 0, 13);
        run.value(13, 0, 11 + 2 * brought);
    }
}
