/** The HASH of a commit and promise 15: a run for each sentence on an edge. */
public final class HashEdgesTest {
    public static void main(String[] args) {
        Due due = new Due("HashEdgesTest");
        noCommit(due.of("The hash of a commit; 0 when there is none"));
        bytes(due.of("h becomes (h xor the byte, 0 .. 255) times 1099511628211, wrapping"));
        parents(due.of("the number of parents; their hashes"));
        time(due.of("the time"));
        latest(due.of("the latest's int and stamp"));
        negativeInts(due.of("plain"), 2);
        negativeInts(due.of("the pair's long and int"), 10);
        pairLong(due.of("the pair's long and int"));
        set(due.of("the set as the sum of 2^e"));
        queue(due.of("the queue as the sum of (1 + element) * 32^place, places from 0 on"));
        option(due.of("1 or 0 as the option is there or not, and its long (0 if absent)"));
        due.end();
    }

    private static void noCommit(Run run) {
        run.hash(0, 0);
        run.hash(-1, 0);
        run.change(0, 0, 1, 0);
        for (int commit : new int[] {-1, 1, 60, -60, 64, Integer.MIN_VALUE, Integer.MAX_VALUE}) {
            run.hash(commit, 0);
        }
        run.change(0, 6, 0, MergeVault.UNFIT);
        run.hash(1, 0);
        run.fillUp(0, 1, 60);
        run.hash(60, 0);
    }

    /** Each long in a commit without a parent. */
    private static void bytes(Run run) {
        long[] longs = {
            0, 1, 127, 128, 255, 256, 32768, 2147483648L, 4294967296L, 72057594037927936L, -1, -128,
            -129, -256, Long.MIN_VALUE, Long.MAX_VALUE, 81985529216486895L, -81985529216486896L
        };
        for (int i = 0; i < longs.length; i++) {
            run.put(0, -1);
            run.change(0, 0, longs[i], i);
            run.hash(i, Hash.of(0, i + 1, longs[i], 0, 0, 0, 0, 0, 0, 0, 0, 0));
        }
    }

    private static void parents(Run run) {
        long none = Hash.of(0, 1, 0, 0, 0, 0, 0, 0, 0, 0, 0, 0);
        long one = Hash.of(1, none, 2, 0, 0, 0, 0, 0, 0, 0, 0, 0, 0);
        long other = Hash.of(1, none, 3, 0, 0, 0, 0, 0, 0, 0, 0, 0, 0);
        run.change(0, 0, 0, 0);
        run.fork(0, 1, true);
        run.change(0, 0, 0, 1);
        run.change(1, 0, 0, 2);
        run.cross(3);
        run.hash(0, none);
        run.hash(1, one);
        run.hash(2, other);
        run.hash(3, Hash.of(2, one, other, 4, 0, 0, 0, 0, 0, 0, 0, 0, 0, 0));
        run.hash(4, Hash.of(2, other, one, 5, 0, 0, 0, 0, 0, 0, 0, 0, 0, 0));
    }

    private static void time(Run run) {
        long before = Hash.of(0, 1, 0, 0, 0, 0, 0, 0, 0, 0, 0, 0);
        run.change(0, 0, 0, 0);
        run.hash(0, before);
        for (int number = 1; number < 60; number++) {
            before = Hash.of(1, before, number + 1, 0, 0, 0, 0, 0, 0, 0, 0, 0, 0);
            run.change(0, 0, 0, number);
            run.hash(number, before);
        }
    }

    private static void latest(Run run) {
        long[] asInts = {0, -1, Integer.MIN_VALUE, Integer.MAX_VALUE, -1};
        long[] longs = {0, -1, Integer.MIN_VALUE, Integer.MAX_VALUE, 4294967295L};
        for (int i = 0; i < longs.length; i++) {
            run.put(0, -1);
            run.change(0, 1, longs[i], i);
            run.hash(i, Hash.of(0, i + 1, 0, asInts[i], i + 1, 0, 0, 0, 0, 0, 0, 0));
        }
    }

    private static void negativeInts(Run run, int what) {
        long[] asInts = {-1, Integer.MIN_VALUE, Integer.MAX_VALUE, -1, 0};
        long[] longs = {-1, Integer.MIN_VALUE, Integer.MAX_VALUE, 4294967295L, 4294967296L};
        for (int i = 0; i < longs.length; i++) {
            long plain = what == 2 ? asInts[i] : 0;
            long pair = what == 2 ? 0 : asInts[i];
            run.put(0, -1);
            run.change(0, what, longs[i], i);
            run.hash(i, Hash.of(0, i + 1, 0, 0, 0, plain, 0, 0, 0, 0, 0, pair));
        }
    }

    private static void pairLong(Run run) {
        long[] longs = {Long.MIN_VALUE, Long.MAX_VALUE, -1, 4294967296L};
        for (int i = 0; i < longs.length; i++) {
            run.put(0, -1);
            run.change(0, 9, longs[i], i);
            run.hash(i, Hash.of(0, i + 1, 0, 0, 0, 0, 0, 0, 0, 0, longs[i], 0));
        }
    }

    private static void set(Run run) {
        long before = 0;
        long sum = 0;
        for (int number = 0; number < 32; number++) {
            // From 31 down, so that the last one is there at once.
            int element = 31 - number;
            sum += 1L << element;
            before = number == 0 ? Hash.of(0, 1, 0, 0, 0, 0, sum, 0, 0, 0, 0, 0)
                    : Hash.of(1, before, number + 1, 0, 0, 0, 0, sum, 0, 0, 0, 0, 0);
            run.change(0, 3, element, number);
            run.hash(number, before);
        }
    }

    private static void queue(Run run) {
        // Element 0 alone is no empty queue; 15 at the last place of eight.
        int[][] rows = {{0}, {0, 1}, {0, 1, 2}, {0, 1, 2, 3}, {0, 1, 2, 3, 4}, {0, 1, 2, 3, 4, 5},
            {0, 1, 2, 3, 4, 5, 6}, {0, 1, 2, 3, 4, 5, 6, 15}, {1, 2, 3, 4, 5, 6, 15}, {1, 2, 3, 4, 5, 6, 15, 0}};
        long before = 0;
        for (int number = 0; number < rows.length; number++) {
            int[] row = rows[number];
            before = number == 0 ? Hash.of(0, 1, 0, 0, 0, 0, 0, 1, 0, 0, 0, 0)
                    : Hash.of(1, before, number + 1, 0, 0, 0, 0, 0, Hash.queue(row), 0, 0, 0, 0);
            run.change(0, number == 8 ? 6 : 5, row[row.length - 1], number);
            run.hash(number, before);
        }
        run.put(0, 0);
        run.change(0, 6, 0, 10);
        long first = Hash.of(0, 1, 0, 0, 0, 0, 0, 1, 0, 0, 0, 0);
        run.hash(10, Hash.of(1, first, 11, 0, 0, 0, 0, 0, 0, 0, 0, 0, 0));
    }

    private static void option(Run run) {
        long there = Hash.of(0, 1, 0, 0, 0, 0, 0, 0, 1, 0, 0, 0);
        long grown = Hash.of(1, there, 2, 0, 0, 0, 0, 0, 0, 1, Long.MIN_VALUE, 0, 0);
        run.change(0, 7, 0, 0);
        run.hash(0, there);
        run.change(0, 7, Long.MIN_VALUE, 1);
        run.hash(1, grown);
        // Absent, it has 0 and not the long that it had.
        run.change(0, 8, 0, 2);
        run.hash(2, Hash.of(1, grown, 3, 0, 0, 0, 0, 0, 0, 0, 0, 0, 0));
    }
}
