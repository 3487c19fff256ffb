/** The term TREE: how far each cell goes, and the empty tree. A run for each sentence on an edge. */
public final class TreeEdgesTest {
    private static final long ALL_32 = 4294967295L;

    public static void main(String[] args) {
        Due due = new Due("TreeEdgesTest");
        wrapsAround(due.of("0 COUNTER, a long, wrapping"), 0, 0);
        latestBeginsWithNothing(due.of("1 LATEST, an int and a STAMP"));
        setHoldsAll(due.of("3 SET, of some of 0 .. 31"));
        queueHoldsAnyEight(due.of("4 QUEUE, a row of at most 8 different elements of 0 .. 15"));
        optionIsAbsentOrThere(due.of("5 OPTION, absent or a long, wrapping"));
        wrapsAround(due.of("5 OPTION, absent or a long, wrapping"), 7, 6);
        wrapsAround(due.of("6 PAIR, a long, wrapping, and an int"), 9, 8);
        emptyTree(due.of("The EMPTY tree has everything 0, the set and the queue empty, the option absent"));
        due.end();
    }

    private static void wrapsAround(Run run, int what, int value) {
        run.change(0, what, Long.MAX_VALUE, 0);
        run.value(0, value, Long.MAX_VALUE);
        run.change(0, what, 1, 1);
        run.value(1, value, Long.MIN_VALUE);
        run.change(0, what, -1, 2);
        run.value(2, value, Long.MAX_VALUE);
        run.change(0, what, Long.MAX_VALUE, 3);
        run.value(3, value, -2);
        run.change(0, what, Long.MIN_VALUE, 4);
        run.value(4, value, Long.MAX_VALUE - 1);
        run.change(1, what, Long.MIN_VALUE, 5);
        run.value(5, value, Long.MIN_VALUE);
        run.change(1, what, Long.MIN_VALUE, 6);
        run.value(6, value, 0);
    }

    private static void latestBeginsWithNothing(Run run) {
        run.change(0, 0, 1, 0);
        run.value(0, 1, 0);
        run.value(0, 2, 0);
        // A latest that became 0 has a stamp all the same.
        run.change(0, 1, 0, 1);
        run.value(1, 1, 0);
        run.value(1, 2, 2);
    }

    private static void setHoldsAll(Run run) {
        for (int element = 0; element < 32; element++) {
            run.change(0, 3, element, element);
            run.value(element, 4, ALL_32 >> 31 - element);
        }
        run.change(0, 4, 31, 32);
        run.value(32, 4, ALL_32 >> 1);
        run.change(0, 4, 0, 33);
        run.value(33, 4, (ALL_32 >> 1) - 1);
    }

    private static void queueHoldsAnyEight(Run run) {
        for (int element = 0; element < 8; element++) {
            run.change(0, 5, element, element);
        }
        run.queue(7, 0, 1, 2, 3, 4, 5, 6, 7);
        run.change(0, 5, 8, MergeVault.UNFIT);
        for (int element = 15; element >= 8; element--) {
            run.change(1, 5, element, 23 - element);
        }
        run.queue(15, 15, 14, 13, 12, 11, 10, 9, 8);
        run.change(1, 5, 7, MergeVault.UNFIT);
    }

    private static void optionIsAbsentOrThere(Run run) {
        run.change(0, 0, 1, 0);
        run.value(0, 6, 0);
        run.value(0, 7, 0);
        // There with 0 is not absent.
        run.change(0, 7, 0, 1);
        run.value(1, 6, 0);
        run.value(1, 7, 1);
    }

    private static void emptyTree(Run run) {
        // A change by 0 leaves the empty tree as it is.
        run.change(3, 0, 0, 0);
        run.values(0, 0, 0, 0, 0, 0, 0, 0, 0, 0, 0);
        run.queue(0);
        run.hash(0, Hash.of(0, 1, 0, 0, 0, 0, 0, 0, 0, 0, 0, 0));
        run.change(3, 4, 0, MergeVault.UNFIT);
        run.change(3, 6, 0, MergeVault.UNFIT);
        run.change(3, 8, 0, MergeVault.UNFIT);
    }
}
