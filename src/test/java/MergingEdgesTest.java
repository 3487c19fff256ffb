/** The term MERGING, and the constant CONFLICT: runs of their own for each sentence on an edge. */
public final class MergingEdgesTest {
    private static final int CONFLICT = MergeVault.CONFLICT;
    private static final long LEAST = Long.MIN_VALUE;
    private static final long MOST = Long.MAX_VALUE;
    private static final int[] NONE = {};
    private static final int[] EIGHT = {0, 1, 2, 3, 4, 5, 6, 7};

    private final Due due = new Due("MergingEdgesTest");

    public static void main(String[] args) {
        new MergingEdgesTest().all();
    }

    private void all() {
        longs("COUNTER: x + y - b", 0);
        greaterStamp(due.of("LATEST: that of x and y with the greater stamp"));
        noStamp(due.of("LATEST: that of x and y with the greater stamp"));
        equalStamps(due.of("of equal stamps the one with the greater int"));
        ints("PLAIN: y if x = b, otherwise x if y = b or x = y, otherwise a conflict", 2);
        set("SET: what is in all three, what is in x and not in b, and what is in y and not in b", 0);
        set("SET: what is in all three, what is in x and not in b, and what is in y and not in b", 31);
        wholeSet(due.of("SET: what is in all three"));
        halvesOfTheSet(due.of("what is in x and not in b, and what is in y and not in b"));
        queueMembers("its MEMBERS are found like those of a set");
        queueInAllThree("u GOES BEFORE v if it stands before v in all three queues");
        queueInOneSide("or (both being there) in x and not in b, or in y and not in b");
        queueNotInBase("(\"not in b\" also when one of both is not there)");
        queueBegins("The result begins with the least member before which no other member goes");
        queueGoesOn("behind that comes the least one of those left before which none of those left goes, and so on");
        queueTooLong("A conflict if there are more than 8 members");
        queueStuck("or if none can be taken though some are left");
        optionBothAbsent("OPTION: absent if x and y are");
        optionBothThere("if both are there: x + y - b (b being 0 if absent)");
        optionNewOnOneSide("if one of them is there, with v: v if b is absent");
        optionGoneOnOneSide("absent if b = v");
        optionConflict("otherwise a conflict");
        longs("PAIR: the long like a COUNTER", 9);
        ints("the int like PLAIN; a conflict if that has one", 10);
        pairIsOneCell(due.of("a conflict if that has one"));
        for (int cells = 1; cells < 16; cells++) {
            firstCell(due.of("it is then a conflict AT the first such cell"), cells);
        }
        constants("A conflict at cell 0; at cell k it is CONFLICT - k");
        due.end();
    }

    private void longs(String name, int what) {
        Cells.longs(due, name, what, 0, MOST, 1, LEAST);
        Cells.longs(due, name, what, 0, LEAST, -1, MOST);
        Cells.longs(due, name, what, 0, LEAST, LEAST, 0);
        Cells.longs(due, name, what, LEAST, MOST, MOST, MOST - 1);
        Cells.longs(due, name, what, MOST, LEAST, LEAST, LEAST + 1);
        Cells.longs(due, name, what, LEAST, LEAST, LEAST, LEAST);
        Cells.longs(due, name, what, MOST, MOST, MOST, MOST);
        Cells.longs(due, name, what, LEAST, LEAST, MOST, MOST);
        Cells.longs(due, name, what, LEAST, 0, 0, LEAST);
    }

    private void greaterStamp(Run run) {
        run.change(0, 1, Integer.MAX_VALUE, 0);
        run.change(1, 1, Integer.MIN_VALUE, 1);
        run.fork(0, 2, true);
        run.merge(1, 0, 2);
        run.value(2, 1, Integer.MIN_VALUE);
        run.value(2, 2, 2);
        run.merge(2, 1, 3);
        run.value(3, 1, Integer.MIN_VALUE);
        run.value(3, 2, 2);
    }

    private void noStamp(Run run) {
        // Never set, it is 0, which is the greater int, but with stamp 0.
        run.change(0, 1, -5, 0);
        run.change(1, 0, 1, 1);
        run.fork(0, 2, true);
        run.merge(1, 0, 2);
        run.value(2, 1, -5);
        run.value(2, 2, 1);
        run.merge(2, 1, 3);
        run.value(3, 1, -5);
        run.value(3, 2, 1);
    }

    private void equalStamps(Run run) {
        // Equal stamps are those of one and the same change, or of none.
        run.change(0, 0, 1, 0);
        run.fork(0, 1, true);
        run.change(0, 0, 1, 1);
        run.change(1, 0, 1, 2);
        run.merge(1, 0, 3);
        run.value(3, 1, 0);
        run.value(3, 2, 0);
        run.change(0, 1, -7, 4);
        run.fork(0, 1, true);
        run.change(0, 0, 1, 5);
        run.change(1, 0, 1, 6);
        run.merge(1, 0, 7);
        run.value(7, 1, -7);
        run.value(7, 2, 5);
    }

    private void ints(String name, int what) {
        int least = Integer.MIN_VALUE;
        int most = Integer.MAX_VALUE;
        Cells.ints(due, name, what, least, least, most, most);
        Cells.ints(due, name, what, most, least, most, least);
        Cells.ints(due, name, what, 0, least, least, least);
        Cells.ints(due, name, what, least, least, least, least);
        Cells.ints(due, name, what, 0, 0, most, most);
        Cells.ints(due, name, what, most, 0, most, 0);
        Cells.ints(due, name, what, least, most, 0, null);
        Cells.ints(due, name, what, most, least, 0, null);
        Cells.ints(due, name, what, 0, 1, -1, null);
        Cells.ints(due, name, what, 0, least, most, null);
        // Alike as ints, though not as the longs that they were cut from.
        Cells.ints(due, name, what, 0, 4294967303L, 7, 7);
        Cells.ints(due, name, what, 7, 4294967303L, 9, 9);
        Cells.ints(due, name, what, 7, 8, -4294967289L, 8);
    }

    private void set(String name, int element) {
        for (int where = 0; where < 8; where++) {
            boolean b = (where & 4) != 0;
            boolean x = (where & 2) != 0;
            boolean y = (where & 1) != 0;
            Cells.set(due, name, element, b, x, y, b ? x && y : x || y);
        }
    }

    private void wholeSet(Run run) {
        for (int element = 0; element < 32; element++) {
            run.change(0, 3, element, element);
        }
        run.fork(0, 1, true);
        run.change(0, 0, 1, 32);
        run.change(1, 0, 1, 33);
        run.merge(1, 0, 34);
        run.value(34, 4, 4294967295L);
    }

    private void halvesOfTheSet(Run run) {
        for (int element = 0; element < 16; element++) {
            run.change(0, 3, element, 2 * element);
            run.change(1, 3, 16 + element, 2 * element + 1);
        }
        run.merge(1, 0, 32);
        run.value(32, 4, 4294967295L);
    }

    private void queueMembers(String name) {
        Cells.queue(due, name, NONE, NONE, NONE, NONE);
        Cells.queue(due, name, row(3), NONE, NONE, NONE);
        Cells.queue(due, name, row(3, 4), row(4), row(3), NONE);
        Cells.queue(due, name, NONE, row(15), row(15), row(15));
        // 0 is in b, 1 in b and x, 2 in b and y, 3 in all, 4 in x, 5 in y, 6 in x and y.
        Cells.queue(due, name, row(0, 1, 2, 3), row(1, 3, 4, 6), row(2, 3, 5, 6), row(3, 4, 5, 6));
    }

    private void queueInAllThree(String name) {
        Cells.queue(due, name, row(15, 0), row(15, 0), row(15, 0), row(15, 0));
        Cells.queue(due, name, row(9, 2), row(9, 2), row(2, 9), row(2, 9));
    }

    private void queueInOneSide(String name) {
        Cells.queue(due, name, row(2, 9), row(9, 2), row(2, 9), row(9, 2));
        Cells.queue(due, name, row(2, 9), row(9, 2), row(9, 2), row(9, 2));
        Cells.queue(due, name, NONE, row(15, 0), NONE, row(15, 0));
        // A side without one of both says nothing of them.
        Cells.queue(due, name, NONE, row(9), row(2), row(2, 9));
        Cells.queue(due, name, NONE, row(2), row(9, 2), row(9, 2));
        Cells.queue(due, name, NONE, row(9), row(9, 2), row(9, 2));
    }

    private void queueNotInBase(String name) {
        Cells.queue(due, name, row(2), row(9, 2), row(2), row(9, 2));
        Cells.queue(due, name, row(9), row(9, 2), row(9), row(9, 2));
        Cells.queue(due, name, row(5), row(9, 2), row(5), row(9, 2));
        Cells.queue(due, name, row(2), row(9, 2), row(2, 9), null);
    }

    private void queueBegins(String name) {
        Cells.queue(due, name, NONE, row(15), row(0), row(0, 15));
        Cells.queue(due, name, NONE, row(15, 0), row(14), row(14, 15, 0));
        // 1 stands before 5, but is no member.
        Cells.queue(due, name, row(1), row(1, 5), row(6), row(5, 6));
    }

    private void queueGoesOn(String name) {
        Cells.queue(due, name, NONE, row(1, 0), row(5), row(1, 0, 5));
        Cells.queue(due, name, NONE, row(6, 3), row(7, 2), row(6, 3, 7, 2));
        Cells.queue(due, name, NONE, row(15, 11, 13), row(14, 12, 10), row(14, 12, 10, 15, 11, 13));
    }

    private void queueTooLong(String name) {
        int[] later = {8, 9, 10, 11, 12, 13, 14, 15};
        Cells.queue(due, name, NONE, row(9, 8, 7, 6), row(5, 4, 3, 2), row(5, 4, 3, 2, 9, 8, 7, 6));
        Cells.queue(due, name, NONE, row(9, 8, 7, 6), row(5, 4, 3, 2, 1), null);
        Cells.queue(due, name, NONE, EIGHT, NONE, EIGHT);
        Cells.queue(due, name, NONE, EIGHT, EIGHT, EIGHT);
        Cells.queue(due, name, NONE, EIGHT, row(8), null);
        Cells.queue(due, name, NONE, EIGHT, later, null);
        Cells.queue(due, name, EIGHT, later, EIGHT, later);
        Cells.queue(due, name, EIGHT, row(2, 3, 4, 5, 6, 7, 8), row(2, 3, 4, 5, 6, 7, 9),
                row(2, 3, 4, 5, 6, 7, 8, 9));
        Cells.queue(due, name, EIGHT, row(1, 2, 3, 4, 5, 6, 7, 8), row(1, 2, 3, 4, 5, 6, 7, 9), null);
    }

    private void queueStuck(String name) {
        Cells.queue(due, name, NONE, row(0, 15), row(15, 0), null);
        Cells.queue(due, name, NONE, row(0, 1, 2), row(2, 1), null);
        Cells.queue(due, name, NONE, row(1, 2, 3), row(3, 1), null);
        Cells.queue(due, name, NONE, EIGHT, row(7, 6), null);
        Cells.queue(due, name, row(1, 2, 3), row(2, 1, 3), row(1, 3, 2), null);
    }

    private static int[] row(int... elements) {
        return elements;
    }

    private void optionBothAbsent(String name) {
        Cells.option(due, name, null, null, null, null);
        Cells.option(due, name, 0L, null, null, null);
        Cells.option(due, name, LEAST, null, null, null);
    }

    private void optionBothThere(String name) {
        Cells.option(due, name, null, 0L, 0L, 0L);
        Cells.option(due, name, null, 3L, 5L, 8L);
        Cells.option(due, name, 0L, 3L, 5L, 8L);
        Cells.option(due, name, 3L, 3L, 3L, 3L);
        Cells.option(due, name, null, MOST, 1L, LEAST);
        Cells.option(due, name, null, LEAST, LEAST, 0L);
        Cells.option(due, name, LEAST, MOST, MOST, MOST - 1);
        Cells.option(due, name, MOST, LEAST, LEAST, LEAST + 1);
        Cells.option(due, name, 5L, 2L, 3L, 0L);
    }

    private void optionNewOnOneSide(String name) {
        Cells.option(due, name, null, 0L, null, 0L);
        Cells.option(due, name, null, null, 0L, 0L);
        Cells.option(due, name, null, LEAST, null, LEAST);
        Cells.option(due, name, null, null, MOST, MOST);
    }

    private void optionGoneOnOneSide(String name) {
        Cells.option(due, name, 0L, 0L, null, null);
        Cells.option(due, name, 0L, null, 0L, null);
        Cells.option(due, name, LEAST, LEAST, null, null);
        Cells.option(due, name, MOST, null, MOST, null);
    }

    private void optionConflict(String name) {
        Cells.optionConflict(due, name, 0L, 1L, null);
        Cells.optionConflict(due, name, 0L, null, -1L);
        Cells.optionConflict(due, name, 1L, 0L, null);
        Cells.optionConflict(due, name, 1L, null, 0L);
        Cells.optionConflict(due, name, LEAST, MOST, null);
        Cells.optionConflict(due, name, LEAST, null, 0L);
        // Alike in their lowest 32 bits.
        Cells.optionConflict(due, name, 7L, 4294967303L, null);
    }

    private void pairIsOneCell(Run run) {
        run.change(0, 9, 1, 0);
        run.fork(0, 1, true);
        run.change(0, 10, 1, 1);
        run.change(1, 10, 2, 2);
        // The longs could be merged, be they alike or not.
        run.merge(1, 0, CONFLICT - 6);
        run.change(0, 9, 5, 3);
        run.merge(1, 0, CONFLICT - 6);
        run.change(1, 10, 1, 4);
        run.merge(1, 0, 5);
        run.values(5, 0, 0, 0, 0, 0, 0, 0, 0, 6, 1);
    }

    /** Conflicts at the cells 2, 4, 5 and 6 that stand for the bits 0, 1, 2 and 3 of a number. */
    private void firstCell(Run run, int cells) {
        run.change(0, 7, 1, 0);
        run.fork(0, 1, true);
        int next = 1;
        int first = 0;
        int[] numbers = {2, 4, 5, 6};
        for (int i = 3; i >= 0; i--) {
            if ((cells >> i & 1) == 1) {
                first = numbers[i];
                next = Cells.layConflict(run, first, next);
            }
        }
        run.merge(1, 0, CONFLICT - first);
        run.merge(0, 1, CONFLICT - first);
    }

    private void constants(String name) {
        int[] cells = {2, 4, 5, 6};
        int[] answers = {-12, -14, -15, -16};
        for (int i = 0; i < cells.length; i++) {
            Run run = due.of(name);
            run.change(0, 7, 1, 0);
            run.fork(0, 1, true);
            Cells.layConflict(run, cells[i], 1);
            run.merge(1, 0, answers[i]);
        }
    }
}
