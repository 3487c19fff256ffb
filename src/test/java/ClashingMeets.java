/** Commits whose meets can't be merged, so that their base is a conflict. */
final class ClashingMeets {
    private ClashingMeets() {
    }

    /**
     * Commits 1 and 2 over 0 clash at plain (what is 2) or at the pair's int (10); 3 over 1 and 5 over
     * 2 have come round to the other one, so that 4 of 3 and 2 and 6 of 5 and 1 can be made.
     */
    static void lay(Run run, int what) {
        run.change(0, 0, 1, 0);
        run.change(0, what, 1, 1);
        run.put(0, 0);
        run.change(0, what, 2, 2);
        run.put(0, 1);
        run.change(0, what, 2, 3);
        run.mergeCommits(3, 2, 4);
        run.put(0, 2);
        run.change(0, what, 1, 5);
        run.mergeCommits(5, 1, 6);
    }
}
