/** Promise 5, the base over which two heads are merged: no meet, one, several. */
public final class BaseTest {
    public static void main(String[] args) {
        Due due = new Due("BaseTest");
        noMeet(new Run(due, "no meet"));
        oneMeet(new Run(due, "one meet"));
        twoMeets(new Run(due, "two meets"));
        threeMeets(new Run(due, "three meets"));
        threeMeetsOverTheEmptyTree(new Run(due, "three meets over the empty tree"));
        everyCell(new Run(due, "every cell of two meets"));
        optionGoneInOneMeet(new Run(due, "an option gone in one of two meets"));
        due.end();
    }

    private static void noMeet(Run run) {
        run.change(0, 0, 10, 0);
        run.change(1, 0, 3, 1);
        run.change(1, 2, 5, 2);
        run.merge(1, 0, 3);
        run.values(3, 13, 0, 0, 5, 0, 0, 0, 0, 0, 0);
        run.meets(0, 2);
    }

    private static void oneMeet(Run run) {
        run.change(0, 0, 1, 0);
        run.change(0, 0, 10, 1);
        run.fork(0, 1, true);
        run.change(0, 0, 100, 2);
        run.change(1, 0, 1000, 3);
        run.merge(1, 0, 4);
        run.value(4, 0, 1111);
        // The base is now commit 3, and no more commit 1.
        run.change(1, 0, 10000, 5);
        run.merge(1, 0, 6);
        run.value(6, 0, 11111);
        run.meets(4, 5, 3);
    }

    private static void twoMeets(Run run) {
        run.change(0, 2, 1, 0);
        run.fork(0, 1, true);
        run.change(0, 2, 7, 1);
        run.change(1, 10, 8, 2);
        run.fork(0, 2, true);
        run.merge(1, 0, 3);
        run.merge(2, 1, 4);
        run.meets(3, 4, 1, 2);
        // Over commit 1 alone pair's int would have changed on both sides, over 2 alone plain.
        run.change(0, 2, 70, 5);
        run.change(1, 10, 80, 6);
        run.merge(1, 0, 7);
        run.values(7, 0, 0, 0, 70, 0, 0, 0, 0, 0, 80);
    }

    /** What both meets have brought is in the base, so that it comes in but once and can go again. */
    private static void everyCell(Run run) {
        run.changes(0, new long[][] {{0, 1}, {3, 0}, {3, 1}, {5, 1}, {7, 10}, {9, 5}}, 0);
        run.fork(0, 1, true);
        run.changes(0, new long[][] {{0, 10}, {4, 0}, {3, 2}, {5, 2}, {7, 1}, {9, 1}, {2, 7}}, 6);
        run.changes(1, new long[][] {{0, 100}, {3, 3}, {5, 3}, {7, 5}, {9, 2}, {10, 8}}, 13);
        run.cross(19);
        run.meets(19, 20, 12, 18);
        for (int merged = 19; merged <= 20; merged++) {
            run.values(merged, 111, 0, 0, 7, 2 + 4 + 8, 3, 16, 1, 8, 8);
            run.queue(merged, 1, 2, 3);
        }
        // On branch 0 the set is 1, 2 and the queue 2; on branch 1 they are 1, 3 and 3.
        run.changes(0, new long[][] {{0, 1000}, {4, 3}, {6, 0}, {6, 0}, {6, 0}, {5, 2}, {7, 20}, {9, 30}, {2, 70}}, 21);
        run.changes(1, new long[][] {{4, 2}, {6, 0}, {6, 0}, {7, 300}, {9, 400}, {10, 80}}, 30);
        run.merge(1, 0, 36);
        run.values(36, 1111, 0, 0, 70, 2, 0, 336, 1, 438, 80);
    }

    private static void optionGoneInOneMeet(Run run) {
        run.change(0, 7, 10, 0);
        run.fork(0, 1, true);
        run.change(0, 0, 1, 1);
        run.change(1, 8, 0, 2);
        run.cross(3);
        run.meets(3, 4, 1, 2);
        // Over the 10 of commit 1 this would be a conflict.
        run.change(0, 7, 3, 5);
        run.merge(1, 0, 6);
        run.value(6, 6, 3);
        run.value(6, 7, 1);
    }

    private static void threeMeets(Run run) {
        run.change(0, 0, 1, 0);
        run.fork(0, 1, true);
        run.fork(0, 2, true);
        run.change(0, 0, 10, 1);
        run.change(1, 0, 100, 2);
        run.change(2, 0, 1000, 3);
        threeMeetsMerged(run, 4);
        run.value(8, 0, 11111);
        run.value(9, 0, 101111);
        run.meets(8, 9, 1, 2, 3);
        run.value(10, 0, 111111);
    }

    private static void threeMeetsOverTheEmptyTree(Run run) {
        run.change(0, 0, 10, 0);
        run.change(1, 0, 100, 1);
        run.change(2, 0, 1000, 2);
        threeMeetsMerged(run, 3);
        run.meets(7, 8, 0, 1, 2);
        run.value(9, 0, 111110);
    }

    /** Heads a, b, c of the branches 0, 1, 2 are merged on 0 as (a, b), c and on 2 as (c, b), a. */
    private static void threeMeetsMerged(Run run, int next) {
        run.fork(0, 3, true);
        run.merge(1, 0, next);
        run.merge(2, 0, next + 1);
        run.merge(1, 2, next + 2);
        run.merge(3, 2, next + 3);
        run.change(0, 0, 10000, next + 4);
        run.change(2, 0, 100000, next + 5);
        run.merge(2, 0, next + 6);
    }
}
