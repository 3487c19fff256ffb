/** Promise 5, the merging of the seven cells of three trees. */
public final class CellTest {
    private static final int CONFLICT = MergeVault.CONFLICT;

    public static void main(String[] args) {
        Due due = new Due("CellTest");
        counter(new Run(due, "counter"));
        latest(new Run(due, "latest"));
        plain(due);
        set(new Run(due, "set"));
        queues(due);
        options(due);
        pair(due);
        firstConflict(due);
        due.end();
    }

    private static void counter(Run run) {
        run.change(0, 0, Long.MAX_VALUE, 0);
        run.fork(0, 1, true);
        run.change(0, 0, 10, 1);
        run.change(1, 0, -3, 2);
        run.merge(1, 0, 3);
        run.value(3, 0, Long.MAX_VALUE + 7);
        run.change(1, 0, 1, 4);
        run.change(0, 0, 1, 5);
        run.merge(1, 0, 6);
        run.value(6, 0, Long.MAX_VALUE + 9);
    }

    private static void latest(Run run) {
        run.change(0, 1, 100, 0);
        run.fork(0, 1, true);
        run.change(0, 0, 1, 1);
        run.change(1, 0, 1, 2);
        run.merge(1, 0, 3);
        run.value(3, 1, 100);
        run.value(3, 2, 1);
        // The later one wins though it is less, whichever side it stands on.
        run.change(0, 1, 50, 4);
        run.change(1, 1, 20, 5);
        run.merge(1, 0, 6);
        run.value(6, 1, 20);
        run.value(6, 2, 6);
        run.swap(0, 6, 4, true);
        run.merge(0, 1, 7);
        run.value(7, 1, 20);
        run.value(7, 2, 6);
        // One side alone.
        run.fork(1, 2, true);
        run.change(2, 1, -1, 8);
        run.change(1, 0, 1, 9);
        run.merge(2, 1, 10);
        run.value(10, 1, -1);
        run.value(10, 2, 9);
    }

    private static void plain(Due due) {
        ints(due, "plain", 2);
        Cells.ints(due, "plain", 2, 3, 0, 3, 0);
        Cells.ints(due, "plain", 2, 5, 0, 7, null);
    }

    private static void ints(Due due, String name, int what) {
        Cells.ints(due, name, what, 5, 5, 5, 5);
        Cells.ints(due, name, what, 5, 5, 6, 6);
        Cells.ints(due, name, what, 5, 6, 5, 6);
        Cells.ints(due, name, what, 5, 6, 6, 6);
        Cells.ints(due, name, what, 0, 0, -1, -1);
        Cells.ints(due, name, what, 5, 6, 7, null);
        Cells.ints(due, name, what, 0, 6, 7, null);
    }

    private static void set(Run run) {
        // In the base 0, 1, 2, 31; x loses 0 and 31, gets 3 and 4; y loses 0 and 1, gets 4 and 5.
        run.change(0, 3, 0, 0);
        run.change(0, 3, 1, 1);
        run.change(0, 3, 2, 2);
        run.change(0, 3, 31, 3);
        run.fork(0, 1, true);
        run.change(0, 4, 0, 4);
        run.change(0, 4, 31, 5);
        run.change(0, 3, 3, 6);
        run.change(0, 3, 4, 7);
        run.change(1, 4, 0, 8);
        run.change(1, 4, 1, 9);
        run.change(1, 3, 4, 10);
        run.change(1, 3, 5, 11);
        run.merge(1, 0, 12);
        run.value(12, 4, 4 + 8 + 16 + 32);
        // Element 31 comes in anew on one side.
        run.change(1, 0, 1, 13);
        run.change(0, 3, 31, 14);
        run.merge(1, 0, 15);
        run.value(15, 4, 2147483648L + 4 + 8 + 16 + 32);
    }

    private static void queues(Due due) {
        int[] none = {};
        queue(due, none, none, none, none);
        queue(due, none, row(3, 1), none, row(3, 1));
        queue(due, none, none, row(3, 1), row(3, 1));
        // Nothing tells the order of 5 and 2: the least first.
        queue(due, none, row(5), row(2), row(2, 5));
        queue(due, none, row(5, 1), row(2), row(2, 5, 1));
        queue(due, none, row(9, 0), row(4, 0), row(4, 9, 0));
        queue(due, none, row(0, 15), row(0, 14), row(0, 14, 15));
        // What one side took out is gone.
        queue(due, row(1, 2, 3), row(2, 3), row(1, 2, 3), row(2, 3));
        queue(due, row(1, 2, 3), row(3), row(2, 3, 0), row(3, 0));
        queue(due, row(1), none, row(1, 4), row(4));
        queue(due, row(7, 2), row(7, 2, 1), row(7, 2, 0), row(7, 2, 0, 1));
        // One of both was not in the base: the order of the side counts.
        queue(due, row(5), row(5, 3), row(5), row(5, 3));
        // A side that turns two round is followed, and both that do it alike.
        queue(due, row(1, 2), row(1, 2, 0), row(2, 1), row(2, 1, 0));
        queue(due, row(1, 2), row(2, 1), row(1, 2), row(2, 1));
        queue(due, row(1, 2), row(2, 1), row(2, 1), row(2, 1));
        queue(due, row(1, 2, 3), row(3, 1, 2), row(2, 3, 1), row(3, 2, 1));
        queue(due, row(6, 5, 4), row(4, 6, 5), row(6, 5, 4), row(4, 6, 5));
        queue(due, row(6, 5, 4), row(4, 6, 5), row(5, 4, 6), row(4, 5, 6));
        // Rounds, at once or behind some that can be taken.
        queue(due, none, row(1, 2), row(2, 1), null);
        queue(due, row(1, 2, 3), row(2, 1, 3), row(1, 3, 2), null);
        queue(due, none, row(1, 2, 3), row(3, 1), null);
        queue(due, none, row(0, 1, 2), row(2, 1), null);
        queue(due, none, row(1, 2), row(2, 0), row(1, 2, 0));
        // Eight have room, nine have not, though no queue had more than five.
        queue(due, none, row(9, 8, 7, 6), row(5, 4, 3, 2), row(5, 4, 3, 2, 9, 8, 7, 6));
        queue(due, none, row(9, 8, 7, 6, 1), row(5, 4, 3, 2), null);
        queue(due, row(0), row(0, 9, 8, 7, 6), row(0, 5, 4, 3, 2), null);
        queue(due, row(0), row(9, 8, 7, 6), row(0, 5, 4, 3, 2), row(5, 4, 3, 2, 9, 8, 7, 6));
    }

    private static int[] row(int... elements) {
        return elements;
    }

    private static void queue(Due due, int[] b, int[] x, int[] y, int[] want) {
        Cells.queue(due, "queue", b, x, y, want);
    }

    private static void options(Due due) {
        Cells.option(due, "option", null, null, null, null);
        Cells.option(due, "option", 4L, null, null, null);
        Cells.option(due, "option", null, 3L, 5L, 8L);
        Cells.option(due, "option", 10L, 13L, 15L, 18L);
        Cells.option(due, "option", null, 3L, null, 3L);
        Cells.option(due, "option", null, null, 3L, 3L);
        Cells.option(due, "option", 7L, 7L, null, null);
        Cells.option(due, "option", 7L, null, 7L, null);
        Cells.optionConflict(due, "option", 7L, 8L, null);
        Cells.optionConflict(due, "option", 7L, null, 8L);
    }

    private static void pair(Due due) {
        ints(due, "pair", 10);
        Cells.longs(due, "pair", 9, 100, 110, 97, 107);
        // The long and the int together, one side each.
        Run run = new Run(due, "pair");
        run.change(0, 9, 5, 0);
        run.fork(0, 1, true);
        run.change(0, 9, 10, 1);
        run.change(1, 10, 8, 2);
        run.merge(1, 0, 3);
        run.values(3, 0, 0, 0, 0, 0, 0, 0, 0, 15, 8);
    }

    private static void firstConflict(Due due) {
        // From the last cell to the first, each new conflict is the one that is told.
        Run run = new Run(due, "first conflict");
        run.change(0, 7, 1, 0);
        run.fork(0, 1, true);
        run.change(0, 10, 1, 1);
        run.change(1, 10, 2, 2);
        run.merge(1, 0, CONFLICT - 6);
        run.change(0, 7, 1, 3);
        run.change(1, 8, 0, 4);
        run.merge(1, 0, CONFLICT - 5);
        run.merge(0, 1, CONFLICT - 5);
        run.change(0, 5, 1, 5);
        run.change(0, 5, 2, 6);
        run.change(1, 5, 2, 7);
        run.change(1, 5, 1, 8);
        run.merge(1, 0, CONFLICT - 4);
        run.change(0, 2, 1, 9);
        run.change(1, 2, 2, 10);
        run.merge(1, 0, CONFLICT - 2);
        run.merge(0, 1, CONFLICT - 2);
        run.commits(11);
    }
}
