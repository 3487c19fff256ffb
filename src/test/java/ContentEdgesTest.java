/** Promises 12 and 13, value and queued: a run for each sentence on an edge. */
public final class ContentEdgesTest {
    private static final int BAD = MergeVault.BAD;

    public static void main(String[] args) {
        Due due = new Due("ContentEdgesTest");
        emptyTree(due.of("6 the option's long (0 if absent), 7 whether it is there (1 or 0)"));
        signs(due.of("4 the set as the sum of 2^e"));
        noCommit(due.of("BAD when there is no such commit or what is not 0 .. 9"));
        noWhat(due.of("BAD when there is no such commit or what is not 0 .. 9"));
        noElement(due.of("Element i (from 0) of a commit's queue; BAD when there is none"));
        noQueue(due.of("Element i (from 0) of a commit's queue; BAD when there is none"));
        due.end();
    }

    private static void emptyTree(Run run) {
        run.change(0, 0, 0, 0);
        run.value(0, 6, 0);
        run.value(0, 7, 0);
        run.change(0, 7, 0, 1);
        run.value(1, 6, 0);
        run.value(1, 7, 1);
        run.change(0, 7, BAD, 2);
        run.value(2, 6, -1);
        run.value(2, 7, 1);
    }

    private static void signs(Run run) {
        run.change(0, 3, 31, 0);
        run.value(0, 4, 2147483648L);
        run.change(0, 3, 0, 1);
        run.value(1, 4, 2147483649L);
        run.change(0, 4, 31, 2);
        run.value(2, 4, 1);
        run.change(0, 4, 0, 3);
        run.value(3, 4, 0);
    }

    private static void noCommit(Run run) {
        for (int what = -1; what <= 10; what++) {
            run.value(0, what, BAD);
        }
        run.change(0, 0, 7, 0);
        for (int commit : new int[] {-1, 1, 60, -60, 64, Integer.MIN_VALUE, Integer.MAX_VALUE}) {
            for (int what = -1; what <= 10; what++) {
                run.value(commit, what, BAD);
            }
        }
        run.value(0, 0, 7);
        run.fillUp(0, 1, 60);
        run.value(59, 0, 7);
        run.value(60, 0, BAD);
    }

    private static void noWhat(Run run) {
        run.change(0, 0, 7, 0);
        run.change(0, 10, 8, 1);
        for (int what : new int[] {-1, 10, 11, 16, Integer.MIN_VALUE, Integer.MAX_VALUE}) {
            run.value(1, what, BAD);
        }
        run.value(1, 0, 7);
        run.value(1, 9, 8);
    }

    private static void noElement(Run run) {
        run.change(0, 0, 1, 0);
        run.queued(0, 0, BAD);
        for (int i = 0; i < 8; i++) {
            run.change(0, 5, 15 - i, 1 + i);
            run.queued(1 + i, i, 15 - i);
            run.queued(1 + i, 0, 15);
            run.queued(1 + i, i + 1, BAD);
        }
        // Far ones too, be they such as a shift would bring round.
        for (int i : new int[] {-1, 8, 9, 12, 13, 16, 32, 64, -64, Integer.MIN_VALUE, Integer.MAX_VALUE}) {
            run.queued(8, i, BAD);
            run.queued(0, i, BAD);
        }
        run.change(0, 6, 0, 9);
        run.queued(9, 6, 8);
        run.queued(9, 7, BAD);
    }

    private static void noQueue(Run run) {
        run.queued(0, 0, BAD);
        run.change(0, 5, 3, 0);
        for (int commit : new int[] {-1, 1, 60, -60, 64, Integer.MIN_VALUE, Integer.MAX_VALUE}) {
            run.queued(commit, 0, BAD);
            run.queued(commit, -1, BAD);
        }
        run.queued(0, 0, 3);
    }
}
