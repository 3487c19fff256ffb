/** The DEPTH of a base, "for depth less than 4" and "at depth + 1": runs for each depth and cell. */
public final class DepthEdgesTest {
    private static final int CONFLICT = MergeVault.CONFLICT;
    private static final String LESS_THAN_4 = "for depth less than 4";

    /** In place of a value's number: the first of the queue tells it. */
    private static final int FIRST_QUEUED = 10;

    /**
     * What is in or out of a tree: the changes (each what and x) that lay it, out, the ones that bring it
     * in and the ones that take it out, and the value that tells it, with its answers for both.
     */
    private record Turn(long[][] laid, long[][] in, long[][] out, int value, long whenIn, long whenOut) {
    }

    private static final long[][] COUNT = {{0, 1}};

    private static final Turn[] TURNS = {
        new Turn(COUNT, new long[][] {{2, 1}}, new long[][] {{2, 0}}, 3, 1, 0),
        new Turn(COUNT, new long[][] {{3, 31}}, new long[][] {{4, 31}}, 4, 2147483648L, 0),
        new Turn(COUNT, new long[][] {{5, 15}}, new long[][] {{6, 0}}, 5, 1, 0),
        // The queue 2, 1 in place of 1, 2.
        new Turn(new long[][] {{5, 1}, {5, 2}}, new long[][] {{6, 0}, {5, 1}}, new long[][] {{6, 0}, {5, 2}},
                FIRST_QUEUED, 2, 1),
        new Turn(COUNT, new long[][] {{7, -9}}, new long[][] {{8, 0}}, 6, -9, 0),
        new Turn(COUNT, new long[][] {{7, 0}}, new long[][] {{8, 0}}, 7, 1, 0),
        new Turn(COUNT, new long[][] {{10, 1}}, new long[][] {{10, 0}}, 9, 1, 0),
    };

    public static void main(String[] args) {
        Due due = new Due("DepthEdgesTest");
        for (int brought : new int[] {100, -7, 1}) {
            longs(due.of(LESS_THAN_4), 0, 0, brought);
            longs(due.of(LESS_THAN_4), 7, 6, brought);
            longs(due.of(LESS_THAN_4), 9, 8, brought);
        }
        for (Turn turn : TURNS) {
            turns(due.of(LESS_THAN_4), turn, false);
            turns(due.of(LESS_THAN_4), turn, true);
        }
        for (int depth = 0; depth < 4; depth++) {
            depthOfConflict(due.of(LESS_THAN_4), depth, 2, CONFLICT - 2);
            depthOfConflict(due.of(LESS_THAN_4), depth, 10, CONFLICT - 6);
        }
        treeOfTheFirstMeet(due.of(LESS_THAN_4), 2, 3);
        treeOfTheFirstMeet(due.of(LESS_THAN_4), 10, 9);
        for (int depth = 1; depth < 4; depth++) {
            threeMeetsBelow(due.of(LESS_THAN_4 + ", for l(1), l(2), .. one after the other"), depth, 1111);
        }
        threeMeetsBelow(due.of(LESS_THAN_4), 4, 2211);
        due.end();
    }

    /**
     * Commits 1 and 2 over 0, then pairs (3, 4), (5, 6) .. that each merge the pair below both ways.
     * The pair (11, 12) has 1 and 2 five pairs below it, where depth 4 has the tree of 1 alone: what
     * 2 has brought is missing there, and counted once too often in the end.
     */
    private static void longs(Run run, int what, int value, int brought) {
        run.change(0, what, 1, 0);
        run.fork(0, 1, true);
        run.change(0, what, 10, 1);
        run.change(1, what, brought, 2);
        for (int pair = 3; pair <= 11; pair += 2) {
            run.cross(pair);
            run.value(pair, value, 11 + brought);
            run.value(pair + 1, value, 11 + brought);
            run.meets(pair, pair + 1, pair - 2, pair - 1);
        }
        run.merge(1, 0, 13);
        run.value(13, value, 11 + 2 * brought);
    }

    /**
     * Pairs over pairs, of which one has something in and the other one has it out. So their merging
     * has it in if their base has it out, and the other way round: as each base is merged from the pair
     * below, it is in and out in turn, from the first commits on, where it is out. With six pairs
     * and more, depth 4 has the tree of the first of a pair, and after four turns it is as it was there.
     */
    private static void turns(Run run, Turn turn, boolean inFirst) {
        int next = run.changes(0, turn.laid, 0);
        run.fork(0, 1, true);
        boolean in = false;
        for (int pairs = 1; pairs <= 8; pairs++) {
            int behindFirst = turn(run, inFirst ? 0 : 1, turn, in, inFirst, next);
            int behindBoth = turn(run, inFirst ? 1 : 0, turn, in, !inFirst, behindFirst);
            run.cross(behindBoth);
            in = pairs <= 5 ? pairs % 2 == 1 : !inFirst;
            told(run, behindBoth, turn, in);
            told(run, behindBoth + 1, turn, in);
            run.meets(behindBoth, behindBoth + 1, behindFirst - 1, behindBoth - 1);
            next = behindBoth + 2;
        }
    }

    /** Makes as many commits in any case, with which it is in or out as it is to be; the next number. */
    private static int turn(Run run, int branch, Turn turn, boolean was, boolean becomes, int next) {
        if (was != becomes) {
            return run.changes(branch, becomes ? turn.in : turn.out, next);
        }
        int until = next + turn.in.length;
        run.fillUp(branch, next, until);
        return until;
    }

    private static void told(Run run, int commit, Turn turn, boolean in) {
        long want = in ? turn.whenIn : turn.whenOut;
        if (turn.value == FIRST_QUEUED) {
            run.queued(commit, 0, (int) want);
        } else {
            run.value(commit, turn.value, want);
        }
    }

    /**
     * Pairs of commits (4, 6), (8, 10), .. (4 * k + 4, 4 * k + 6), each the meets of the next, and 1
     * and 2, which clash, the meets of the first. So the base of pair k has a conflict at depth k. A
     * pair can't be merged for the next one, but each of it with one that the other was made from.
     */
    private static void layClashBelow(Run run, int pairs, int what) {
        ClashingMeets.lay(run, what);
        for (int last = 6; last <= 4 * pairs + 2; last += 4) {
            run.mergeCommits(last - 2, last - 1, last + 1);
            run.mergeCommits(last + 1, last, last + 2);
            run.mergeCommits(last, last - 3, last + 3);
            run.mergeCommits(last + 3, last - 2, last + 4);
        }
    }

    private static void depthOfConflict(Run run, int depth, int what, int want) {
        layClashBelow(run, depth, what);
        int last = 4 * depth + 6;
        run.meets(4, 6, 1, 2);
        for (int higher = 10; higher <= last; higher += 4) {
            run.meets(higher - 2, higher, higher - 6, higher - 4);
        }
        run.commits(last + 1);
        run.mergeCommits(last - 2, last, want);
    }

    /**
     * At depth 4 the base of 4 and 6 is the tree of 1, with 1, and no conflict. The first of each pair
     * but the lowest has 1 and the second one 2 (4 has 2 and 6 has 1), so that the bases above are 2,
     * 1, 2, 1 in turn, and the merging of 1 and 2 over 1 is 2.
     */
    private static void treeOfTheFirstMeet(Run run, int what, int value) {
        depthOfConflict(run, 4, what, 23);
        run.value(4, value, 2);
        run.value(6, value, 1);
        for (int second = 10; second <= 22; second += 4) {
            run.value(second - 2, value, 1);
            run.value(second, value, 2);
        }
        run.value(23, value, 2);
    }

    /**
     * Commits 5 and 7 have the meets 1, 2 and 3; over them stand pairs (8, 9), (10, 11), .. that each
     * merge the pair below both ways. At depth 4 the base of 5 and 7 is 11, the tree of 1, and those
     * above it are 2211 and 11 in turn.
     */
    private static void threeMeetsBelow(Run run, int depth, long want) {
        run.change(0, 0, 1, 0);
        for (int meet = 1; meet <= 3; meet++) {
            run.put(0, 0);
            run.change(0, 0, meet == 1 ? 10 : meet == 2 ? 100 : 1000, meet);
        }
        run.mergeCommits(1, 2, 4);
        run.mergeCommits(4, 3, 5);
        run.mergeCommits(3, 2, 6);
        run.mergeCommits(6, 1, 7);
        run.meets(5, 7, 1, 2, 3);
        run.put(0, 5);
        run.put(1, 7);
        int next = 8;
        for (int pair = 0; pair < depth; pair++) {
            run.cross(next);
            run.value(next, 0, 1111);
            run.value(next + 1, 0, 1111);
            next += 2;
        }
        run.merge(1, 0, next);
        run.value(next, 0, want);
    }
}
