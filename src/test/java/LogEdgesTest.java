/** The LOG, and promises 16 and 17: a run for each sentence on an edge. */
public final class LogEdgesTest {
    private static final int BAD = MergeVault.BAD;

    public static void main(String[] args) {
        Due due = new Due("LogEdgesTest");
        everyWay(due.of("an EVENT for each time that the head of a watched branch became another commit or none"));
        sameHead(due.of("an EVENT for each time that the head of a watched branch became another commit or none"));
        noneAsBefore(due.of("an EVENT for each time that the head of a watched branch became another commit or none"));
        unwatched(due.of("an EVENT for each time that the head of a watched branch became another commit or none"));
        watchedByItself(due.of("A branch may be WATCHED"));
        refused(due.of("an EVENT for each time that the head of a watched branch became another commit or none"));
        hundred(due.of("at most 100 events, later ones are not written"));
        hundredOfAllBranches(due.of("at most 100 events, later ones are not written"));
        howMany(due.of("How many events the log has"));
        newHead(due.of("its branch plus 4 * (the new head + 1)"));
        none(due.of("0 in place of that for none"));
        noEvent(due.of("BAD when there is none"));
        due.end();
    }

    private static void watchAll(Run run) {
        for (int branch = 0; branch < 4; branch++) {
            run.watch(branch, true, true);
        }
    }

    private static void everyWay(Run run) {
        watchAll(run);
        run.change(0, 0, 1, 0);
        run.log(4);
        run.fork(0, 1, true);
        run.log(4, 5);
        run.change(1, 0, 1, 1);
        run.merge(1, 0, 1);
        run.log(4, 5, 9, 8);
        run.merge(0, 2, 1);
        run.log(4, 5, 9, 8, 10);
        run.swap(2, 1, 0, true);
        run.swap(2, 0, -1, true);
        run.log(4, 5, 9, 8, 10, 6, 2);
        run.fork(2, 1, true);
        run.log(4, 5, 9, 8, 10, 6, 2, 1);
        run.change(1, 0, 1, 2);
        run.merge(1, 0, 3);
        run.log(4, 5, 9, 8, 10, 6, 2, 1, 13, 16);
    }

    private static void sameHead(Run run) {
        watchAll(run);
        run.change(0, 0, 1, 0);
        run.change(0, 0, 1, 1);
        run.fork(0, 1, true);
        run.put(2, 0);
        run.log(4, 8, 9, 6);
        run.fork(0, 0, true);
        run.fork(0, 1, true);
        run.swap(0, 1, 1, true);
        run.merge(0, 0, 1);
        run.merge(0, 1, 1);
        run.merge(2, 0, 1);
        run.log(4, 8, 9, 6);
    }

    private static void noneAsBefore(Run run) {
        watchAll(run);
        run.fork(0, 1, true);
        run.fork(2, 2, true);
        run.swap(3, -1, -1, true);
        run.log();
    }

    private static void unwatched(Run run) {
        run.watch(1, true, true);
        run.change(0, 0, 1, 0);
        run.change(0, 0, 1, 1);
        run.swap(0, 1, 0, true);
        run.fork(0, 2, true);
        run.swap(2, 0, -1, true);
        run.merge(0, 3, 0);
        run.log();
        // Only the branch whose head moves counts, and from when it is watched on.
        run.fork(0, 1, true);
        run.watch(0, true, true);
        run.log(5);
    }

    /** Watching belongs to the branch: it neither goes along with a head nor gets lost with one. */
    private static void watchedByItself(Run run) {
        run.watch(0, true, true);
        run.change(0, 0, 1, 0);
        run.fork(0, 1, true);
        run.change(1, 0, 1, 1);
        run.merge(0, 2, 0);
        run.merge(1, 2, 1);
        run.change(2, 0, 1, 2);
        run.put(3, 0);
        run.change(3, 0, 1, 3);
        run.log(4);
        run.fork(1, 0, true);
        run.merge(2, 0, 2);
        run.merge(3, 0, 4);
        run.fork(0, 3, true);
        run.put(0, -1);
        run.put(0, 3);
        run.change(0, 0, 1, 5);
        run.change(3, 0, 1, 6);
        run.log(4, 8, 12, 20, 0, 16, 24);
    }

    private static void refused(Run run) {
        watchAll(run);
        run.change(0, 2, 1, 0);
        run.change(1, 2, 2, 1);
        run.merge(1, 0, MergeVault.CONFLICT - 2);
        run.merge(3, 0, BAD);
        run.change(0, 6, 0, MergeVault.UNFIT);
        run.swap(0, 1, -1, false);
        run.swap(0, 0, 2, false);
        run.fork(0, 4, false);
        run.fork(4, 0, false);
        run.log(4, 9);
    }

    /** Commits 0 and 1 on branch 0, and so many events from its head going to and fro. */
    private static void layEvents(Run run, int count) {
        run.fillUp(0, 0, 2);
        run.watch(0, true, true);
        for (int i = 0; i < count; i++) {
            run.swap(0, 1 - i % 2, i % 2, true);
        }
    }

    private static void hundred(Run run) {
        layEvents(run, 99);
        run.events(99);
        run.event(99, BAD);
        run.swap(0, 0, -1, true);
        run.events(100);
        run.event(99, 0);
        // The heads go on, the log does not, neither at its end nor at its beginning.
        watchAll(run);
        run.swap(0, -1, 0, true);
        run.change(1, 0, 1, 2);
        run.fork(1, 2, true);
        run.merge(2, 3, 2);
        run.merge(2, 0, 3);
        run.head(0, 3);
        run.head(1, 2);
        run.head(2, 2);
        run.head(3, 2);
        run.watch(0, false, true);
        run.watch(0, true, true);
        run.change(0, 0, 1, 4);
        run.events(100);
        run.event(100, BAD);
        run.event(101, BAD);
        run.event(0, 4);
        for (int i = 1; i < 99; i++) {
            run.event(i, 4 + i % 2 * 4);
        }
        run.event(99, 0);
    }

    private static void hundredOfAllBranches(Run run) {
        run.change(0, 0, 1, 0);
        watchAll(run);
        for (int i = 0; i < 100; i++) {
            int branch = 1 + i % 3;
            run.swap(branch, i / 3 % 2 - 1, -(i / 3 % 2), true);
        }
        run.events(100);
        run.swap(0, 0, -1, true);
        run.events(100);
        run.event(0, 5);
        run.event(2, 7);
        run.event(3, 1);
        run.event(98, 7);
        run.event(99, 1);
        run.event(100, BAD);
    }

    private static void howMany(Run run) {
        run.events(0);
        run.watch(0, true, true);
        run.events(0);
        run.change(0, 0, 1, 0);
        run.events(1);
        run.change(1, 0, 1, 1);
        run.events(1);
        run.watch(0, false, true);
        run.events(1);
    }

    private static void newHead(Run run) {
        watchAll(run);
        for (int branch = 0; branch < 4; branch++) {
            run.change(branch, 0, 1, branch);
        }
        run.log(4, 9, 14, 19);
        for (int branch = 0; branch < 4; branch++) {
            run.watch(branch, false, true);
        }
        run.fillUp(0, 4, 60);
        watchAll(run);
        run.fork(0, 3, true);
        run.event(4, 243);
        run.swap(0, 59, 0, true);
        run.event(5, 4);
    }

    private static void none(Run run) {
        for (int branch = 0; branch < 4; branch++) {
            run.change(branch, 0, 1, branch);
        }
        watchAll(run);
        run.swap(3, 3, -1, true);
        run.fork(3, 2, true);
        run.swap(1, 1, -1, true);
        run.fork(1, 0, true);
        run.log(3, 2, 1, 0);
    }

    private static void noEvent(Run run) {
        int[] farOff = {-1, -2, 1, 99, 100, 101, Integer.MIN_VALUE, Integer.MAX_VALUE};
        run.event(0, BAD);
        for (int i : farOff) {
            run.event(i, BAD);
        }
        run.watch(0, true, true);
        run.change(0, 0, 1, 0);
        run.event(0, 4);
        for (int i : farOff) {
            run.event(i, BAD);
        }
    }
}
