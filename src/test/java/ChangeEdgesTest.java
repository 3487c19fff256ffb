/** Promise 2: a run for each sentence on an edge. That a refusal changes nothing: RefusalTest. */
public final class ChangeEdgesTest {
    private static final int BAD = MergeVault.BAD;
    private static final int FULL = MergeVault.FULL;
    private static final int UNFIT = MergeVault.UNFIT;

    private static final int[] NO_BRANCHES = {-1, 4, -4, 8, Integer.MIN_VALUE, Integer.MAX_VALUE};
    private static final int[] NO_WHATS = {-1, 11, 16, Integer.MIN_VALUE, Integer.MAX_VALUE};
    /** Those beyond an int would be elements if they were cut. */
    private static final long[] FAR_OFF = {
        64, 256, 4294967296L, 4294967297L, -4294967296L, -4294967295L, Long.MIN_VALUE, Long.MAX_VALUE
    };
    private static final long[] LONGS = {
        0, 5, -1, 2147483647, 2147483648L, 4294967295L, 4294967296L, 4294967301L, -2147483648,
        -2147483649L, -4294967296L, Long.MAX_VALUE, Long.MIN_VALUE, 81985529216486895L
    };
    private static final int[] AS_INTS = {
        0, 5, -1, 2147483647, -2147483648, -1, 0, 5, -2147483648, 2147483647, 0, -1, 0, -1985229329
    };

    public static void main(String[] args) {
        Due due = new Due("ChangeEdgesTest");
        noParent(due.of("with the head of a branch as its parent (none if there is none)"));
        emptyTree(due.of("whose tree is that of the parent (or the empty one) with one change"));
        cutToInt(due.of("1 the latest becomes x (as an int, the lowest 32 bits)"), 1, 1);
        stamp(due.of("its stamp the commit's time"));
        cutToInt(due.of("2 plain becomes x (as an int)"), 2, 3);
        endOfQueue(due.of("5 x comes to the end of the queue"));
        firstOfQueue(due.of("6 the first of the queue goes"));
        optionGrows(due.of("7 the option grows by x (from 0 if it was absent)"));
        optionGoes(due.of("8 the option becomes absent"));
        cutToInt(due.of("10 the pair's int becomes x (as an int)"), 10, 9);
        anyX(due.of("what not 0 .. 10, x not 0 .. 31 for 3 and 4, or not 0 .. 15 for 5"));
        wrongBranch(due.of("BAD when branch is not 0 .. 3"));
        wrongWhat(due.of("what not 0 .. 10"));
        wrongX(due.of("x not 0 .. 31 for 3 and 4"), 3, 31);
        wrongX(due.of("x not 0 .. 31 for 3 and 4"), 4, 31);
        wrongX(due.of("or not 0 .. 15 for 5"), 5, 15);
        inTheSet(due.of("UNFIT when x is in the set already (3)"));
        notInTheSet(due.of("is not in it (4)"));
        inTheQueue(due.of("is in the queue or that has 8 elements (5)"));
        eightInTheQueue(due.of("is in the queue or that has 8 elements (5)"));
        emptyQueue(due.of("the queue is empty (6)"));
        absentOption(due.of("or the option is absent (8)"));
        full(due.of("FULL = -2"));
        badBeforeUnfit(due.of("Refusals are tested in the order in which they are named"));
        badBeforeFull(due.of("Refusals are tested in the order in which they are named"));
        unfitBeforeFull(due.of("Refusals are tested in the order in which they are named"));
        fullQueueBeforeFull(due.of("Refusals are tested in the order in which they are named"));
        due.end();
    }

    private static void noParent(Run run) {
        run.change(0, 0, 1, 0);
        run.parent(0, 0, BAD);
        run.parent(0, 1, BAD);
        run.ancestors(0, 1);
        run.change(0, 0, 1, 1);
        run.parent(1, 0, 0);
        run.parent(1, 1, BAD);
        // Another branch has no head yet, and this one has lost its own.
        run.change(3, 0, 1, 2);
        run.parent(2, 0, BAD);
        run.swap(0, 1, -1, true);
        run.change(0, 0, 1, 3);
        run.parent(3, 0, BAD);
        run.ancestors(3, 1);
    }

    private static void emptyTree(Run run) {
        int[] whats = {0, 1, 2, 3, 5, 7, 9, 10};
        for (int i = 0; i < whats.length; i++) {
            run.swap(0, i - 1, -1, true);
            run.change(0, whats[i], 6, i);
        }
        run.values(0, 6, 0, 0, 0, 0, 0, 0, 0, 0, 0);
        run.values(1, 0, 6, 2, 0, 0, 0, 0, 0, 0, 0);
        run.values(2, 0, 0, 0, 6, 0, 0, 0, 0, 0, 0);
        run.values(3, 0, 0, 0, 0, 64, 0, 0, 0, 0, 0);
        run.values(4, 0, 0, 0, 0, 0, 1, 0, 0, 0, 0);
        run.values(5, 0, 0, 0, 0, 0, 0, 6, 1, 0, 0);
        run.values(6, 0, 0, 0, 0, 0, 0, 0, 0, 6, 0);
        run.values(7, 0, 0, 0, 0, 0, 0, 0, 0, 0, 6);
    }

    private static void cutToInt(Run run, int what, int value) {
        for (int i = 0; i < LONGS.length; i++) {
            run.change(0, what, LONGS[i], i);
            run.value(i, value, AS_INTS[i]);
        }
    }

    private static void stamp(Run run) {
        run.change(0, 1, 7, 0);
        run.value(0, 2, 1);
        run.change(1, 1, 7, 1);
        run.value(1, 2, 2);
        // The same int once more has a stamp of its own; another cell leaves the stamp alone.
        run.change(0, 1, 7, 2);
        run.value(2, 2, 3);
        run.change(0, 2, 7, 3);
        run.value(3, 2, 3);
        run.change(0, 4, 7, UNFIT);
        run.change(0, 1, 7, 4);
        run.value(4, 2, 5);
        run.fillUp(0, 5, 59);
        run.value(58, 2, 5);
        run.change(0, 1, 7, 59);
        run.value(59, 2, 60);
    }

    private static void endOfQueue(Run run) {
        run.change(0, 5, 15, 0);
        run.queue(0, 15);
        run.change(0, 5, 0, 1);
        run.queue(1, 15, 0);
        for (int element = 1; element <= 6; element++) {
            run.change(0, 5, element, 1 + element);
        }
        run.queue(7, 15, 0, 1, 2, 3, 4, 5, 6);
    }

    private static void firstOfQueue(Run run) {
        run.change(0, 5, 4, 0);
        run.change(0, 6, 0, 1);
        run.queue(1);
        for (int element = 0; element < 8; element++) {
            run.change(0, 5, element, 2 + element);
        }
        // X is of no account.
        run.change(0, 6, 7, 10);
        run.queue(10, 1, 2, 3, 4, 5, 6, 7);
        run.change(0, 6, Long.MIN_VALUE, 11);
        run.queue(11, 2, 3, 4, 5, 6, 7);
    }

    private static void optionGrows(Run run) {
        run.change(0, 7, -5, 0);
        run.value(0, 6, -5);
        run.value(0, 7, 1);
        run.change(0, 7, 5, 1);
        run.value(1, 6, 0);
        run.value(1, 7, 1);
        run.change(0, 7, 9, 2);
        run.change(0, 8, 0, 3);
        // From 0, and not from what it had been.
        run.change(0, 7, 4, 4);
        run.value(4, 6, 4);
        run.value(4, 7, 1);
    }

    private static void optionGoes(Run run) {
        run.change(0, 7, 9, 0);
        run.change(0, 8, Long.MAX_VALUE, 1);
        run.value(1, 6, 0);
        run.value(1, 7, 0);
        run.value(0, 6, 9);
        run.value(0, 7, 1);
    }

    /** No other change has bounds for x. */
    private static void anyX(Run run) {
        run.change(1, 5, 1, 0);
        run.change(1, 7, 1, 1);
        int next = 2;
        for (int what : new int[] {0, 1, 2, 6, 7, 8, 9, 10}) {
            for (long x : new long[] {Long.MIN_VALUE, -1, 16, 32, Long.MAX_VALUE}) {
                run.fork(1, 0, true);
                run.change(0, what, x, next);
                next++;
            }
        }
    }

    private static void wrongBranch(Run run) {
        run.change(0, 7, 1, 0);
        for (int branch : NO_BRANCHES) {
            for (int what = 0; what <= 10; what++) {
                run.change(branch, what, 1, BAD);
            }
        }
        run.commits(1);
        run.change(3, 0, 1, 1);
        run.change(0, 0, 1, 2);
    }

    private static void wrongWhat(Run run) {
        for (int what : NO_WHATS) {
            run.change(0, what, 0, BAD);
            run.change(0, what, 1, BAD);
        }
        run.commits(0);
        run.change(0, 0, 0, 0);
        run.change(0, 10, 0, 1);
    }

    private static void wrongX(Run run, int what, int most) {
        for (long x : FAR_OFF) {
            run.change(0, what, x, BAD);
        }
        run.change(0, what, -1, BAD);
        run.change(0, what, most + 1, BAD);
        run.commits(0);
        // The first and the last that are in bounds: they are put in, or else they are not in the set.
        run.change(0, what, 0, what == 4 ? UNFIT : 0);
        run.change(0, what, most, what == 4 ? UNFIT : 1);
    }

    private static void inTheSet(Run run) {
        run.change(0, 3, 0, 0);
        run.change(0, 3, 31, 1);
        run.change(0, 3, 0, UNFIT);
        run.change(0, 3, 31, UNFIT);
        run.change(1, 3, 31, 2);
        run.change(0, 4, 31, 3);
        run.change(0, 3, 31, 4);
        run.value(4, 4, 2147483649L);
    }

    private static void notInTheSet(Run run) {
        run.change(0, 4, 0, UNFIT);
        run.change(0, 4, 31, UNFIT);
        run.change(0, 3, 31, 0);
        run.change(0, 4, 0, UNFIT);
        run.change(0, 4, 30, UNFIT);
        run.change(1, 4, 31, UNFIT);
        run.change(0, 4, 31, 1);
        run.value(1, 4, 0);
        run.change(0, 4, 31, UNFIT);
    }

    private static void inTheQueue(Run run) {
        run.change(0, 5, 0, 0);
        run.change(0, 5, 0, UNFIT);
        run.change(0, 5, 15, 1);
        run.change(0, 5, 0, UNFIT);
        run.change(0, 5, 15, UNFIT);
        run.change(1, 5, 15, 2);
        // What has gone may come again.
        run.change(0, 6, 0, 3);
        run.change(0, 5, 0, 4);
        run.queue(4, 15, 0);
    }

    private static void eightInTheQueue(Run run) {
        for (int element = 0; element < 8; element++) {
            run.change(0, 5, element, element);
        }
        run.change(0, 5, 8, UNFIT);
        run.change(0, 5, 15, UNFIT);
        run.change(0, 5, 0, UNFIT);
        run.change(0, 6, 0, 8);
        run.change(0, 5, 8, 9);
        run.queue(9, 1, 2, 3, 4, 5, 6, 7, 8);
        run.change(0, 5, 0, UNFIT);
    }

    private static void emptyQueue(Run run) {
        run.change(0, 6, 0, UNFIT);
        run.change(0, 5, 0, 0);
        run.change(1, 6, 0, UNFIT);
        run.change(0, 6, 0, 1);
        run.change(0, 6, 0, UNFIT);
    }

    private static void absentOption(Run run) {
        run.change(0, 8, 0, UNFIT);
        run.change(0, 0, 1, 0);
        run.change(0, 8, 0, UNFIT);
        // There with 0 is there.
        run.change(0, 7, 0, 1);
        run.change(1, 8, 0, UNFIT);
        run.change(0, 8, 0, 2);
        run.change(0, 8, 0, UNFIT);
    }

    /** Branch 0 has a tree to which every change can be made; branch 1 has no head. */
    private static void laidFull(Run run) {
        run.change(0, 3, 1, 0);
        run.change(0, 5, 1, 1);
        run.change(0, 7, 1, 2);
        run.fillUp(0, 3, 59);
        run.change(0, 0, 1, 59);
    }

    private static void full(Run run) {
        laidFull(run);
        for (int what = 0; what <= 10; what++) {
            run.change(0, what, what == 4 ? 1 : 2, FULL);
        }
        run.change(1, 0, 1, FULL);
        run.commits(60);
    }

    private static void badBeforeUnfit(Run run) {
        for (int element = 0; element < 8; element++) {
            run.change(0, 5, element, element);
        }
        run.change(0, 4, -1, BAD);
        run.change(0, 4, 32, BAD);
        run.change(0, 5, -1, BAD);
        run.change(0, 5, 16, BAD);
        run.change(4, 4, 0, BAD);
        run.change(-1, 5, 0, BAD);
        run.change(4, 6, 0, BAD);
        run.change(-1, 8, 0, BAD);
    }

    private static void badBeforeFull(Run run) {
        laidFull(run);
        run.change(-1, 0, 1, BAD);
        run.change(4, 0, 1, BAD);
        run.change(0, -1, 1, BAD);
        run.change(0, 11, 1, BAD);
        run.change(0, 3, -1, BAD);
        run.change(0, 3, 32, BAD);
        run.change(0, 4, -1, BAD);
        run.change(0, 4, 32, BAD);
        run.change(0, 5, -1, BAD);
        run.change(0, 5, 16, BAD);
    }

    private static void unfitBeforeFull(Run run) {
        laidFull(run);
        run.change(0, 3, 1, UNFIT);
        run.change(0, 4, 2, UNFIT);
        run.change(0, 5, 1, UNFIT);
        run.change(1, 4, 1, UNFIT);
        run.change(1, 6, 0, UNFIT);
        run.change(1, 8, 0, UNFIT);
    }

    private static void fullQueueBeforeFull(Run run) {
        for (int element = 0; element < 8; element++) {
            run.change(0, 5, element, element);
        }
        run.fillUp(0, 8, 60);
        run.change(0, 5, 8, UNFIT);
    }
}
