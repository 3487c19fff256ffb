/** Promises 12, 13 and 15: value, queued and hash. */
public final class ContentTest {
    private static final int BAD = MergeVault.BAD;
    private static final int[] NO_COMMITS = {-1, -2, 19, 60, 64, Integer.MIN_VALUE, Integer.MAX_VALUE};

    public static void main(String[] args) {
        Due due = new Due("ContentTest");
        Run run = new Run(due, "content");
        laidContent(run);
        value(run);
        queued(run);
        hash(run);
        knownHash(new Run(due, "known hash"));
        oldTreesStay(new Run(due, "old trees stay"));
        due.end();
    }

    /** Eighteen changes on branch 0, and commit 18, which merges 17 into 0 over a new past. */
    private static void laidContent(Run run) {
        run.change(0, 0, -5, 0);
        run.change(0, 1, -6, 1);
        run.change(0, 2, -7, 2);
        run.change(0, 3, 0, 3);
        run.change(0, 3, 31, 4);
        int[] elements = {15, 0, 4, 9, 1, 2, 3, 14};
        for (int i = 0; i < elements.length; i++) {
            run.change(0, 5, elements[i], 5 + i);
        }
        run.change(0, 7, -8, 13);
        run.change(0, 9, -9, 14);
        run.change(0, 10, -10, 15);
        run.change(0, 8, 0, 16);
        run.change(1, 0, 100, 17);
        run.merge(1, 0, 18);
    }

    private static void value(Run run) {
        run.values(15, -5, -6, 2, -7, 2147483649L, 8, -8, 1, -9, -10);
        run.values(16, -5, -6, 2, -7, 2147483649L, 8, 0, 0, -9, -10);
        run.values(17, 100, 0, 0, 0, 0, 0, 0, 0, 0, 0);
        run.values(18, 95, -6, 2, -7, 2147483649L, 8, 0, 0, -9, -10);
        for (int what : new int[] {-1, 10, Integer.MIN_VALUE, Integer.MAX_VALUE}) {
            run.value(18, what, BAD);
        }
        for (int commit : NO_COMMITS) {
            run.value(commit, 5, BAD);
        }
    }

    private static void queued(Run run) {
        run.queue(4);
        run.queue(5, 15);
        run.queue(18, 15, 0, 4, 9, 1, 2, 3, 14);
        for (int i : new int[] {-1, 8, 9, 16, Integer.MIN_VALUE, Integer.MAX_VALUE}) {
            run.queued(18, i, BAD);
        }
        for (int commit : NO_COMMITS) {
            run.queued(commit, 0, BAD);
        }
    }

    private static void hash(Run run) {
        int[] elements = {15, 0, 4, 9, 1, 2, 3, 14};
        long queue = Hash.queue(elements);
        long[] hashes = new long[19];
        hashes[0] = Hash.of(0, 1, -5, 0, 0, 0, 0, 0, 0, 0, 0, 0);
        hashes[1] = Hash.of(1, hashes[0], 2, -5, -6, 2, 0, 0, 0, 0, 0, 0, 0);
        hashes[2] = Hash.of(1, hashes[1], 3, -5, -6, 2, -7, 0, 0, 0, 0, 0, 0);
        hashes[3] = Hash.of(1, hashes[2], 4, -5, -6, 2, -7, 1, 0, 0, 0, 0, 0);
        hashes[4] = Hash.of(1, hashes[3], 5, -5, -6, 2, -7, 2147483649L, 0, 0, 0, 0, 0);
        long below = 1;
        for (int i = 0; i < elements.length; i++) {
            below *= 32;
            hashes[5 + i] = Hash.of(1, hashes[4 + i], 6 + i, -5, -6, 2, -7, 2147483649L, queue % below, 0, 0, 0, 0);
        }
        hashes[13] = Hash.of(1, hashes[12], 14, -5, -6, 2, -7, 2147483649L, queue, 1, -8, 0, 0);
        hashes[14] = Hash.of(1, hashes[13], 15, -5, -6, 2, -7, 2147483649L, queue, 1, -8, -9, 0);
        hashes[15] = Hash.of(1, hashes[14], 16, -5, -6, 2, -7, 2147483649L, queue, 1, -8, -9, -10);
        hashes[16] = Hash.of(1, hashes[15], 17, -5, -6, 2, -7, 2147483649L, queue, 0, 0, -9, -10);
        hashes[17] = Hash.of(0, 18, 100, 0, 0, 0, 0, 0, 0, 0, 0, 0);
        hashes[18] = Hash.of(2, hashes[16], hashes[17], 19, 95, -6, 2, -7, 2147483649L, queue, 0, 0, -9, -10);
        for (int commit = 0; commit < hashes.length; commit++) {
            run.hash(commit, hashes[commit]);
        }
        for (int commit : NO_COMMITS) {
            run.hash(commit, 0);
        }
    }

    private static void oldTreesStay(Run run) {
        run.changes(0, new long[][] {{0, 4}, {5, 3}, {7, 2}, {3, 1}}, 0);
        long hash = run.vault().hash(3);
        run.changes(0, new long[][] {{6, 0}, {8, 0}, {4, 1}, {1, 5}, {2, 6}, {9, 7}, {10, 8}}, 4);
        run.fillUp(0, 11, 60);
        run.values(3, 4, 0, 0, 0, 2, 1, 2, 1, 0, 0);
        run.queue(3, 3);
        run.hash(3, hash);
        run.values(0, 4, 0, 0, 0, 0, 0, 0, 0, 0, 0);
        run.values(59, 4, 5, 8, 6, 0, 0, 0, 0, 7, 8);
    }

    /** From the runs that came with the document, so that the words above are not all that counts. */
    private static void knownHash(Run run) {
        run.change(0, 0, 5, 0);
        run.change(0, 5, 3, 1);
        run.change(0, 5, 9, 2);
        run.hash(0, 3600390129550689153L);
        run.hash(2, 8940984865763002962L);
    }
}
