import java.util.Arrays;

/**
 * Mergings of three contents of one cell: the base on branches 0 and 1, one side laid over it on
 * branch 0, the other one on branch 1, then merged both ways. Null stands for an absent option, and
 * for a conflict that is due.
 */
final class Cells {
    private static final int CONFLICT = MergeVault.CONFLICT;

    private Cells() {
    }

    /** What is 0 for the counter, 9 for the pair's long. */
    static void longs(Due due, String name, int what, long b, long x, long y, long want) {
        Run run = new Run(due, name + " " + b + ", " + x + ", " + y);
        run.change(0, what, b, 0);
        run.fork(0, 1, true);
        run.change(0, what, x - b, 1);
        run.change(1, what, y - b, 2);
        mergeBothWays(run, 3, null);
        run.value(3, what == 0 ? 0 : 8, want);
        run.value(4, what == 0 ? 0 : 8, want);
    }

    /** What is 2 for plain, 10 for the pair's int. */
    static void ints(Due due, String name, int what, long b, long x, long y, Integer want) {
        Run run = new Run(due, name + " " + b + ", " + x + ", " + y);
        run.change(0, what, b, 0);
        run.fork(0, 1, true);
        run.change(0, what, x, 1);
        run.change(1, what, y, 2);
        mergeBothWays(run, 3, want == null ? Integer.valueOf(what == 2 ? 2 : 6) : null);
        if (want != null) {
            run.value(3, what == 2 ? 3 : 9, want);
            run.value(4, what == 2 ? 3 : 9, want);
        }
    }

    /** Whether one element is in the base, in the two sides, and in the set that is due. */
    static void set(Due due, String name, int element, boolean b, boolean x, boolean y, boolean want) {
        Run run = new Run(due, name + " " + element + " " + b + ", " + x + ", " + y);
        layInSet(run, 0, element, false, b, 0);
        run.fork(0, 1, true);
        layInSet(run, 0, element, b, x, 1);
        layInSet(run, 1, element, b, y, 2);
        mergeBothWays(run, 3, null);
        run.value(3, 4, want ? 1L << element : 0);
        run.value(4, 4, want ? 1L << element : 0);
    }

    /** Makes one commit, with which the element is in the set or not. */
    private static void layInSet(Run run, int branch, int element, boolean was, boolean becomes, int next) {
        if (was == becomes) {
            run.change(branch, 0, 1, next);
        } else {
            run.change(branch, becomes ? 3 : 4, element, next);
        }
    }

    /** The two sides are made from the base by taking all out and putting in anew what they have. */
    static void queue(Due due, String name, int[] b, int[] x, int[] y, int[] want) {
        Run run = new Run(due, name + " " + Arrays.toString(b) + Arrays.toString(x) + Arrays.toString(y));
        run.change(0, 0, 1, 0);
        int next = putIn(run, 0, b, 1);
        run.fork(0, 1, true);
        next = putIn(run, 0, x, takeOut(run, 0, b.length, next));
        run.change(0, 0, 1, next);
        next = putIn(run, 1, y, takeOut(run, 1, b.length, next + 1));
        run.change(1, 0, 1, next);
        mergeBothWays(run, next + 1, want == null ? Integer.valueOf(4) : null);
        if (want != null) {
            run.queue(next + 1, want);
            run.queue(next + 2, want);
        }
    }

    static int takeOut(Run run, int branch, int count, int next) {
        for (int i = 0; i < count; i++) {
            run.change(branch, 6, 0, next + i);
        }
        return next + count;
    }

    static int putIn(Run run, int branch, int[] elements, int next) {
        for (int i = 0; i < elements.length; i++) {
            run.change(branch, 5, elements[i], next + i);
        }
        return next + elements.length;
    }

    static void option(Due due, String name, Long b, Long x, Long y, Long want) {
        Run run = laidOptions(due, name, b, x, y);
        mergeBothWays(run, 6, null);
        for (int commit = 6; commit <= 7; commit++) {
            run.value(commit, 6, want == null ? 0 : want);
            run.value(commit, 7, want == null ? 0 : 1);
        }
    }

    static void optionConflict(Due due, String name, Long b, Long x, Long y) {
        mergeBothWays(laidOptions(due, name, b, x, y), 6, 5);
    }

    private static Run laidOptions(Due due, String name, Long b, Long x, Long y) {
        Run run = new Run(due, name + " " + b + ", " + x + ", " + y);
        layOption(run, 0, null, b, 0);
        run.fork(0, 1, true);
        layOption(run, 0, b, x, 2);
        layOption(run, 1, b, y, 4);
        return run;
    }

    /** Makes two commits, with which the option becomes what it is to be. */
    private static void layOption(Run run, int branch, Long was, Long becomes, int next) {
        if (was == null && becomes == null) {
            run.change(branch, 7, 1, next);
            run.change(branch, 8, 0, next + 1);
        } else if (becomes == null) {
            run.change(branch, 0, 1, next);
            run.change(branch, 8, 0, next + 1);
        } else {
            run.change(branch, 7, was == null ? becomes : becomes - was, next);
            run.change(branch, 0, 1, next + 1);
        }
    }

    /** Over a base whose option is there, has the heads of branches 0 and 1 clash at a cell. */
    static int layConflict(Run run, int cell, int next) {
        switch (cell) {
            case 2 -> {
                run.change(0, 2, 1, next);
                run.change(1, 2, 2, next + 1);
            }
            case 4 -> {
                return putIn(run, 1, new int[] {2, 1}, putIn(run, 0, new int[] {1, 2}, next));
            }
            case 5 -> {
                run.change(0, 7, 1, next);
                run.change(1, 8, 0, next + 1);
            }
            default -> {
                run.change(0, 10, 1, next);
                run.change(1, 10, 2, next + 1);
            }
        }
        return next + 2;
    }

    private static void mergeBothWays(Run run, int next, Integer cell) {
        run.fork(0, 2, true);
        run.merge(1, 0, cell == null ? next : CONFLICT - cell);
        run.merge(2, 1, cell == null ? next + 1 : CONFLICT - cell);
    }
}
