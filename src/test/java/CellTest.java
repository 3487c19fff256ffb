import java.util.Arrays;

/** Promise 5, the merging of the seven cells of three trees. */
public final class CellTest {
    private static final int CONFLICT = MergeVault.CONFLICT;
    private static final long ABSENT = Long.MIN_VALUE;

    public static void main(String[] args) {
        Due due = new Due("CellTest");
        counter(new Run(due, "counter"));
        latest(new Run(due, "latest"));
        plain(due);
        set(new Run(due, "set"));
        queues(due);
        options(due);
        pair(due);
        firstConflict(due);
        due.end();
    }

    private static void counter(Run run) {
        run.change(0, 0, Long.MAX_VALUE, 0);
        run.fork(0, 1, true);
        run.change(0, 0, 10, 1);
        run.change(1, 0, -3, 2);
        run.merge(1, 0, 3);
        run.value(3, 0, Long.MAX_VALUE + 7);
        run.change(1, 0, 1, 4);
        run.change(0, 0, 1, 5);
        run.merge(1, 0, 6);
        run.value(6, 0, Long.MAX_VALUE + 9);
    }

    private static void latest(Run run) {
        run.change(0, 1, 100, 0);
        run.fork(0, 1, true);
        run.change(0, 0, 1, 1);
        run.change(1, 0, 1, 2);
        run.merge(1, 0, 3);
        run.value(3, 1, 100);
        run.value(3, 2, 1);
        // The later one wins though it is less, whichever side it stands on.
        run.change(0, 1, 50, 4);
        run.change(1, 1, 20, 5);
        run.merge(1, 0, 6);
        run.value(6, 1, 20);
        run.value(6, 2, 6);
        run.swap(0, 6, 4, true);
        run.merge(0, 1, 7);
        run.value(7, 1, 20);
        run.value(7, 2, 6);
        // One side alone.
        run.fork(1, 2, true);
        run.change(2, 1, -1, 8);
        run.change(1, 0, 1, 9);
        run.merge(2, 1, 10);
        run.value(10, 1, -1);
        run.value(10, 2, 9);
    }

    private static void plain(Due due) {
        int[][] cases = {{5, 5, 5, 5}, {5, 5, 6, 6}, {5, 6, 5, 6}, {5, 6, 6, 6}, {0, 0, -1, -1}, {3, 0, 3, 0}};
        for (int[] c : cases) {
            Run run = startOfInts(due, "plain", 2, c[0], c[1], c[2]);
            run.merge(1, 0, 5);
            run.value(5, 3, c[3]);
        }
        startOfInts(due, "plain", 2, 5, 6, 7).merge(1, 0, CONFLICT - 2);
        startOfInts(due, "plain", 2, 0, 6, 7).merge(1, 0, CONFLICT - 2);
        startOfInts(due, "plain", 2, 5, 0, 7).merge(1, 0, CONFLICT - 2);
    }

    /** Base 0, then 1 and 2 (into) and 3 and 4 (from), so that both have moved on. */
    private static Run startOfInts(Due due, String name, int what, int b, int x, int y) {
        Run run = new Run(due, name + " " + b + ", " + x + ", " + y);
        run.change(0, what, b, 0);
        run.fork(0, 1, true);
        run.change(0, what, x, 1);
        run.change(0, 0, 1, 2);
        run.change(1, what, y, 3);
        run.change(1, 0, 1, 4);
        return run;
    }

    private static void set(Run run) {
        // In the base 0, 1, 2, 31; x loses 0 and 31, gets 3 and 4; y loses 0 and 1, gets 4 and 5.
        run.change(0, 3, 0, 0);
        run.change(0, 3, 1, 1);
        run.change(0, 3, 2, 2);
        run.change(0, 3, 31, 3);
        run.fork(0, 1, true);
        run.change(0, 4, 0, 4);
        run.change(0, 4, 31, 5);
        run.change(0, 3, 3, 6);
        run.change(0, 3, 4, 7);
        run.change(1, 4, 0, 8);
        run.change(1, 4, 1, 9);
        run.change(1, 3, 4, 10);
        run.change(1, 3, 5, 11);
        run.merge(1, 0, 12);
        run.value(12, 4, 4 + 8 + 16 + 32);
        // Element 31 comes in anew on one side.
        run.change(1, 0, 1, 13);
        run.change(0, 3, 31, 14);
        run.merge(1, 0, 15);
        run.value(15, 4, 2147483648L + 4 + 8 + 16 + 32);
    }

    private static void queues(Due due) {
        int[] none = {};
        queue(due, none, none, none, none);
        queue(due, none, row(3, 1), none, row(3, 1));
        queue(due, none, none, row(3, 1), row(3, 1));
        // Nothing tells the order of 5 and 2: the least first.
        queue(due, none, row(5), row(2), row(2, 5));
        queue(due, none, row(5, 1), row(2), row(2, 5, 1));
        queue(due, none, row(9, 0), row(4, 0), row(4, 9, 0));
        queue(due, none, row(0, 15), row(0, 14), row(0, 14, 15));
        // What one side took out is gone.
        queue(due, row(1, 2, 3), row(2, 3), row(1, 2, 3), row(2, 3));
        queue(due, row(1, 2, 3), row(3), row(2, 3, 0), row(3, 0));
        queue(due, row(1), none, row(1, 4), row(4));
        queue(due, row(7, 2), row(7, 2, 1), row(7, 2, 0), row(7, 2, 0, 1));
        // One of both was not in the base: the order of the side counts.
        queue(due, row(5), row(5, 3), row(5), row(5, 3));
        // A side that turns two round is followed, and both that do it alike.
        queue(due, row(1, 2), row(1, 2, 0), row(2, 1), row(2, 1, 0));
        queue(due, row(1, 2), row(2, 1), row(1, 2), row(2, 1));
        queue(due, row(1, 2), row(2, 1), row(2, 1), row(2, 1));
        queue(due, row(1, 2, 3), row(3, 1, 2), row(2, 3, 1), row(3, 2, 1));
        queue(due, row(6, 5, 4), row(4, 6, 5), row(6, 5, 4), row(4, 6, 5));
        queue(due, row(6, 5, 4), row(4, 6, 5), row(5, 4, 6), row(4, 5, 6));
        // Rounds, at once or behind some that can be taken.
        queue(due, none, row(1, 2), row(2, 1), null);
        queue(due, row(1, 2, 3), row(2, 1, 3), row(1, 3, 2), null);
        queue(due, none, row(1, 2, 3), row(3, 1), null);
        queue(due, none, row(0, 1, 2), row(2, 1), null);
        queue(due, none, row(1, 2), row(2, 0), row(1, 2, 0));
        // Eight have room, nine have not, though no queue had more than five.
        queue(due, none, row(9, 8, 7, 6), row(5, 4, 3, 2), row(5, 4, 3, 2, 9, 8, 7, 6));
        queue(due, none, row(9, 8, 7, 6, 1), row(5, 4, 3, 2), null);
        queue(due, row(0), row(0, 9, 8, 7, 6), row(0, 5, 4, 3, 2), null);
        queue(due, row(0), row(9, 8, 7, 6), row(0, 5, 4, 3, 2), row(5, 4, 3, 2, 9, 8, 7, 6));
    }

    private static int[] row(int... elements) {
        return elements;
    }

    /** The two sides are made from the base by taking all out and putting in anew what they have. */
    private static void queue(Due due, int[] b, int[] x, int[] y, int[] want) {
        Run run = new Run(due, "queue " + Arrays.toString(b) + Arrays.toString(x) + Arrays.toString(y));
        run.change(0, 0, 1, 0);
        int next = putIn(run, 0, b, 1);
        run.fork(0, 1, true);
        next = putIn(run, 0, x, takeOut(run, 0, b.length, next));
        run.change(0, 0, 1, next);
        next = putIn(run, 1, y, takeOut(run, 1, b.length, next + 1));
        run.change(1, 0, 1, next);
        next++;
        run.fork(0, 2, true);
        run.merge(1, 0, want == null ? CONFLICT - 4 : next);
        run.merge(2, 1, want == null ? CONFLICT - 4 : next + 1);
        if (want != null) {
            run.queue(next, want);
            run.queue(next + 1, want);
        }
    }

    private static int takeOut(Run run, int branch, int count, int next) {
        for (int i = 0; i < count; i++) {
            run.change(branch, 6, 0, next + i);
        }
        return next + count;
    }

    private static int putIn(Run run, int branch, int[] elements, int next) {
        for (int i = 0; i < elements.length; i++) {
            run.change(branch, 5, elements[i], next + i);
        }
        return next + elements.length;
    }

    private static void options(Due due) {
        option(due, ABSENT, ABSENT, ABSENT, ABSENT, true);
        option(due, 4, ABSENT, ABSENT, ABSENT, true);
        option(due, ABSENT, 3, 5, 8, true);
        option(due, 10, 13, 15, 18, true);
        option(due, 0, 3, 5, 8, true);
        option(due, ABSENT, 3, ABSENT, 3, true);
        option(due, ABSENT, ABSENT, 3, 3, true);
        option(due, ABSENT, ABSENT, 0, 0, true);
        option(due, 7, 7, ABSENT, ABSENT, true);
        option(due, 7, ABSENT, 7, ABSENT, true);
        option(due, 0, ABSENT, 0, ABSENT, true);
        option(due, 7, 8, ABSENT, 0, false);
        option(due, 7, ABSENT, 8, 0, false);
        option(due, 7, ABSENT, 0, 0, false);
        option(due, 0, ABSENT, 7, 0, false);
        wrappingOption(new Run(due, "option wraps"));
    }

    private static void option(Due due, long b, long x, long y, long want, boolean fine) {
        Run run = new Run(due, "option " + b + ", " + x + ", " + y);
        int next = laidOption(run, 0, ABSENT, b, 0);
        run.fork(0, 1, true);
        next = laidOption(run, 0, b, x, next);
        next = laidOption(run, 1, b, y, next);
        run.merge(1, 0, fine ? next : CONFLICT - 5);
        if (fine) {
            run.value(next, 6, want == ABSENT ? 0 : want);
            run.value(next, 7, want == ABSENT ? 0 : 1);
        }
    }

    /** Makes two commits, with which the option becomes what it is to be. */
    private static int laidOption(Run run, int branch, long was, long becomes, int next) {
        if (was == ABSENT && becomes == ABSENT) {
            run.change(branch, 7, 1, next);
            run.change(branch, 8, 0, next + 1);
        } else if (becomes == ABSENT) {
            run.change(branch, 0, 1, next);
            run.change(branch, 8, 0, next + 1);
        } else {
            run.change(branch, 7, was == ABSENT ? becomes : becomes - was, next);
            run.change(branch, 0, 1, next + 1);
        }
        return next + 2;
    }

    private static void wrappingOption(Run run) {
        run.change(0, 7, 0, 0);
        run.fork(0, 1, true);
        run.change(0, 7, Long.MAX_VALUE, 1);
        run.change(1, 7, 1, 2);
        run.merge(1, 0, 3);
        run.value(3, 6, Long.MIN_VALUE);
        run.value(3, 7, 1);
    }

    private static void pair(Due due) {
        int[][] cases = {{5, 5, 5, 5}, {5, 5, 6, 6}, {5, 6, 5, 6}, {5, 6, 6, 6}, {0, 0, -1, -1}};
        for (int[] c : cases) {
            Run run = startOfInts(due, "pair", 10, c[0], c[1], c[2]);
            run.change(0, 9, 10, 5);
            run.change(1, 9, Long.MAX_VALUE, 6);
            run.merge(1, 0, 7);
            run.value(7, 9, c[3]);
            run.value(7, 8, Long.MAX_VALUE + 10);
        }
        startOfInts(due, "pair", 10, 5, 6, 7).merge(1, 0, CONFLICT - 6);
        startOfInts(due, "pair", 10, 0, 6, 7).merge(1, 0, CONFLICT - 6);
    }

    private static void firstConflict(Due due) {
        // From the last cell to the first, each new conflict is the one that is told.
        Run run = new Run(due, "first conflict");
        run.change(0, 7, 1, 0);
        run.fork(0, 1, true);
        run.change(0, 10, 1, 1);
        run.change(1, 10, 2, 2);
        run.merge(1, 0, CONFLICT - 6);
        run.change(0, 7, 1, 3);
        run.change(1, 8, 0, 4);
        run.merge(1, 0, CONFLICT - 5);
        run.merge(0, 1, CONFLICT - 5);
        run.change(0, 5, 1, 5);
        run.change(0, 5, 2, 6);
        run.change(1, 5, 2, 7);
        run.change(1, 5, 1, 8);
        run.merge(1, 0, CONFLICT - 4);
        run.change(0, 2, 1, 9);
        run.change(1, 2, 2, 10);
        run.merge(1, 0, CONFLICT - 2);
        run.merge(0, 1, CONFLICT - 2);
        run.commits(11);
    }
}
