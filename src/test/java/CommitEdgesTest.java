import java.util.List;
import java.util.function.Consumer;

/** COMMITS, ANCESTORS and MEETS, and promises 8 to 11 and 14: a run for each sentence on an edge. */
public final class CommitEdgesTest {
    private static final int BAD = MergeVault.BAD;
    private static final int FULL = MergeVault.FULL;

    /** Each call of the face, with its answer in the object of sameCall, which it leaves as it is. */
    private static final List<Consumer<Run>> CALLS = List.of(
            run -> run.change(1, 6, 0, MergeVault.UNFIT), run -> run.fork(0, 2, true),
            run -> run.swap(0, 1, 1, true), run -> run.merge(0, 2, 1), run -> run.watch(0, true, true),
            run -> run.head(0, 1), run -> run.commits(2), run -> run.parent(1, 0, 0),
            run -> run.ancestors(1, 2), run -> run.meet(1, 0, 0, 0), run -> run.value(1, 5, 1),
            run -> run.queued(1, 0, 3), run -> run.time(1, 2), run -> run.events(1), run -> run.event(0, 8),
            run -> run.hash(0, Hash.of(0, 1, 0, 0, 0, 0, 0, 4, 0, 0, 0, 0)));

    public static void main(String[] args) {
        Due due = new Due("CommitEdgesTest");
        wholeLife(due.of("An object is used for at most 512 calls after it has been made"));
        for (Consumer<Run> call : CALLS) {
            sameCall(due.of("An object is used for at most 512 calls after it has been made"), call);
        }
        numbered(due.of("COMMITS are numbered 0, 1, .. as they are made"));
        sixtyByChange(due.of("at most 60"));
        sixtyByMerge(due.of("at most 60"));
        parents(due.of("A commit has none, one or two PARENTS (an order)"));
        times(due.of("a TIME (1, 2, .. over all commits)"));
        itself(due.of("Its ANCESTORS are itself, its parents and their ancestors"));
        onceEach(due.of("Its ANCESTORS are itself, its parents and their ancestors"));
        nearestOnly(due.of("their common ancestors that are not ancestors of another common ancestor"));
        oneIsTheOthersAncestor(due.of("their common ancestors that are not ancestors of another common ancestor"));
        byNumber(due.of("by their numbers"));
        lateNumbers(due.of("by their numbers"));
        twentyMeets(due.of("by their numbers"));
        howMany(due.of("How many commits there are"));
        noParent(due.of("Parent i (0 or 1) of a commit; BAD when there is none"));
        noAncestors(due.of("How many ancestors a commit has, itself counted; BAD when there is no such commit"));
        noMeet(due.of("Meet i (from 0) of two commits; BAD when there is none"));
        noMeetOfNoCommit(due.of("Meet i (from 0) of two commits; BAD when there is none"));
        noTime(due.of("The time of a commit; BAD when there is none"));
        due.end();
    }

    /** Full of commits and of events, and then asked until the last call that is answered for. */
    private static void wholeLife(Run run) {
        run.watch(0, true, true);
        run.fillUp(0, 0, 60);
        for (int i = 0; i < 50; i++) {
            run.swap(0, 59 - i, 58 - i, true);
        }
        run.events(100);
        run.change(1, 0, 1, FULL);
        run.put(1, 30);
        while (run.callsLeft() > 4) {
            run.merge(0, 1, 30);
        }
        run.swap(0, 9, -1, true);
        run.events(100);
        run.time(59, 60);
        run.commits(60);
        run.holdsNoMoreCalls();
    }

    private static void sameCall(Run run, Consumer<Run> call) {
        run.change(0, 5, 3, 0);
        run.watch(0, true, true);
        run.change(0, 0, 1, 1);
        run.fork(0, 2, true);
        while (run.callsLeft() > 0) {
            call.accept(run);
        }
    }

    private static void numbered(Run run) {
        run.change(3, 0, 1, 0);
        run.change(1, 0, 1, 1);
        // Neither a refused call nor a merging that makes no commit takes a number.
        run.change(1, 6, 0, MergeVault.UNFIT);
        run.change(4, 0, 1, BAD);
        run.merge(1, 0, 1);
        run.merge(0, 1, 1);
        run.change(3, 0, 1, 2);
        run.change(3, 2, 1, 3);
        run.change(1, 2, 2, 4);
        run.merge(3, 1, MergeVault.CONFLICT - 2);
        run.change(1, 2, 0, 5);
        run.merge(3, 1, 6);
        run.change(0, 0, 1, 7);
    }

    private static void sixtyByChange(Run run) {
        run.fillUp(0, 0, 59);
        run.commits(59);
        run.change(0, 0, 1, 59);
        run.commits(60);
        run.change(0, 0, 1, FULL);
        run.change(1, 0, 1, FULL);
        run.commits(60);
        run.head(0, 59);
        run.head(1, BAD);
    }

    private static void sixtyByMerge(Run run) {
        run.change(1, 0, 5, 0);
        run.fillUp(0, 1, 59);
        run.fork(0, 2, true);
        run.merge(1, 0, 59);
        run.value(59, 0, 5);
        run.commits(60);
        run.merge(2, 1, FULL);
        run.commits(60);
        run.head(1, 0);
    }

    private static void parents(Run run) {
        run.change(0, 0, 1, 0);
        run.change(1, 0, 1, 1);
        run.change(1, 0, 1, 2);
        run.fork(0, 2, true);
        run.merge(1, 0, 3);
        run.merge(2, 1, 4);
        run.parent(0, 0, BAD);
        run.parent(0, 1, BAD);
        run.parent(2, 0, 1);
        run.parent(2, 1, BAD);
        run.parent(3, 0, 0);
        run.parent(3, 1, 2);
        run.parent(4, 0, 2);
        run.parent(4, 1, 0);
    }

    private static void times(Run run) {
        run.change(0, 0, 1, 0);
        run.change(1, 0, 1, 1);
        run.change(0, 6, 0, MergeVault.UNFIT);
        run.merge(1, 0, 2);
        run.time(0, 1);
        run.time(1, 2);
        run.time(2, 3);
        run.fillUp(3, 3, 60);
        run.time(59, 60);
    }

    private static void itself(Run run) {
        run.change(0, 0, 1, 0);
        run.ancestors(0, 1);
        run.change(1, 0, 1, 1);
        run.ancestors(1, 1);
        run.merge(1, 0, 2);
        run.ancestors(2, 3);
    }

    private static void onceEach(Run run) {
        // Pairs that merge the pair below both ways: the ways back are many, the ancestors are not.
        run.change(0, 0, 1, 0);
        run.fork(0, 1, true);
        run.change(0, 0, 1, 1);
        run.change(1, 0, 1, 2);
        for (int pair = 3; pair < 59; pair += 2) {
            run.cross(pair);
            run.ancestors(pair, pair + 1);
            run.ancestors(pair + 1, pair + 1);
        }
        run.change(0, 0, 1, 59);
        run.ancestors(59, 59);
    }

    private static void nearestOnly(Run run) {
        run.fillUp(0, 0, 5);
        run.fork(0, 1, true);
        run.change(0, 0, 1, 5);
        run.change(1, 0, 1, 6);
        run.meets(5, 6, 4);
        run.merge(1, 0, 7);
        run.change(1, 0, 1, 8);
        run.meets(7, 8, 6);
        // Neither the first nor the second parent of a meet is one.
        run.fork(0, 1, true);
        run.change(0, 0, 1, 9);
        run.change(1, 0, 1, 10);
        run.meets(9, 10, 7);
    }

    private static void oneIsTheOthersAncestor(Run run) {
        run.fillUp(0, 0, 3);
        run.meets(2, 2, 2);
        run.meets(0, 0, 0);
        run.meets(0, 2, 0);
        run.meets(1, 2, 1);
    }

    private static void byNumber(Run run) {
        for (int branch = 0; branch < 4; branch++) {
            run.change(3 - branch, 0, 1, branch);
        }
        // 4 is 3 with 0, 5 has 2 too, 6 has 1 too; 7 to 9 join them in the order 1, 3, 0, 2.
        run.mergeCommits(3, 0, 4);
        run.mergeCommits(4, 2, 5);
        run.mergeCommits(5, 1, 6);
        run.mergeCommits(1, 3, 7);
        run.mergeCommits(7, 0, 8);
        run.mergeCommits(8, 2, 9);
        run.meets(6, 9, 0, 1, 2, 3);
        run.meets(5, 7, 3);
        run.meets(5, 8, 0, 3);
        run.meets(4, 7, 3);
    }

    private static void lateNumbers(Run run) {
        run.fillUp(0, 0, 31);
        run.fork(0, 1, true);
        run.change(0, 0, 1, 31);
        run.change(1, 0, 1, 32);
        run.cross(33);
        run.meets(33, 34, 31, 32);
        run.fillUp(0, 35, 56);
        run.change(0, 0, 1, 56);
        run.change(1, 0, 1, 57);
        run.cross(58);
        run.meets(58, 59, 56, 57);
        run.meets(59, 59, 59);
        run.meets(0, 59, 0);
        run.meets(31, 59, 31);
        run.meets(32, 59, 32);
    }

    /** Twenty commits without parents, joined from the first on and from the last on. */
    private static void twentyMeets(Run run) {
        int[] all = new int[20];
        for (int number = 0; number < 20; number++) {
            run.change(0, 0, 1, number);
            run.put(0, -1);
            all[number] = number;
        }
        run.mergeCommits(0, 1, 20);
        for (int number = 2; number < 20; number++) {
            run.mergeCommits(18 + number, number, 19 + number);
        }
        run.mergeCommits(19, 18, 39);
        for (int number = 17; number >= 0; number--) {
            run.mergeCommits(56 - number, number, 57 - number);
        }
        run.meets(38, 57, all);
        run.mergeCommits(38, 57, 58);
        run.value(58, 0, 20);
    }

    private static void howMany(Run run) {
        run.commits(0);
        run.change(0, 4, 0, MergeVault.UNFIT);
        run.change(0, 0, 1, 0);
        run.commits(1);
        run.merge(0, 1, 0);
        run.fork(0, 2, true);
        run.swap(0, 0, -1, true);
        run.commits(1);
        run.fillUp(0, 1, 60);
        run.commits(60);
        run.change(0, 0, 1, FULL);
        run.commits(60);
    }

    private static void noParent(Run run) {
        run.parent(0, 0, BAD);
        run.change(0, 0, 1, 0);
        run.change(1, 0, 1, 1);
        run.merge(1, 0, 2);
        run.change(0, 0, 1, 3);
        for (int i : new int[] {-1, 2, 3, -2, Integer.MIN_VALUE, Integer.MAX_VALUE}) {
            run.parent(2, i, BAD);
            run.parent(0, i, BAD);
        }
        run.parent(0, 0, BAD);
        run.parent(0, 1, BAD);
        run.parent(3, 1, BAD);
        for (int commit : new int[] {-1, 4, 60, -60, 64, 66, Integer.MIN_VALUE, Integer.MAX_VALUE}) {
            run.parent(commit, 0, BAD);
            run.parent(commit, 1, BAD);
            run.parent(commit, 2, BAD);
        }
    }

    private static void noAncestors(Run run) {
        run.ancestors(0, BAD);
        run.change(0, 0, 1, 0);
        for (int commit : new int[] {-1, 1, 60, 64, -64, Integer.MIN_VALUE, Integer.MAX_VALUE}) {
            run.ancestors(commit, BAD);
        }
        run.ancestors(0, 1);
        run.fillUp(0, 1, 60);
        run.ancestors(59, 60);
        run.ancestors(60, BAD);
    }

    private static void noMeet(Run run) {
        run.change(0, 0, 1, 0);
        run.change(1, 0, 1, 1);
        run.meets(0, 1);
        run.cross(2);
        run.meets(2, 3, 0, 1);
        for (int i : new int[] {-1, 2, 3, 59, 60, 63, 64, 65, Integer.MIN_VALUE, Integer.MAX_VALUE}) {
            run.meet(2, 3, i, BAD);
            run.meet(0, 1, i, BAD);
        }
    }

    private static void noMeetOfNoCommit(Run run) {
        run.meet(0, 0, 0, BAD);
        run.meet(-1, -1, 0, BAD);
        run.change(0, 0, 1, 0);
        for (int commit : new int[] {-1, 1, 60, 64, -64, Integer.MIN_VALUE, Integer.MAX_VALUE}) {
            run.meet(0, commit, 0, BAD);
            run.meet(commit, 0, 0, BAD);
            run.meet(commit, commit, 0, BAD);
        }
        run.meet(0, 0, 0, 0);
    }

    private static void noTime(Run run) {
        run.time(0, BAD);
        run.change(0, 0, 1, 0);
        for (int commit : new int[] {-1, 1, 60, -60, Integer.MIN_VALUE, Integer.MAX_VALUE}) {
            run.time(commit, BAD);
        }
        run.time(0, 1);
        run.fillUp(0, 1, 60);
        run.time(59, 60);
        run.time(60, BAD);
    }
}
