import java.util.ArrayList;
import java.util.List;
import java.util.function.Consumer;
import java.util.function.ToLongFunction;

/**
 * "A call that is refused changes nothing": two objects get the same calls, but one of them a refused
 * call too; all that they tell and do from then on is to be alike. Each reason stands for itself.
 */
public final class RefusalTest {
    private static final int BAD = MergeVault.BAD;
    private static final int FULL = MergeVault.FULL;
    private static final int UNFIT = MergeVault.UNFIT;
    private static final int CONFLICT = MergeVault.CONFLICT;
    private static final int REFUSED = 0;

    private final Due due = new Due("RefusalTest");

    public static void main(String[] args) {
        new RefusalTest().all();
    }

    private void all() {
        badChanges();
        unfitChanges();
        fullChanges();
        forks();
        swaps();
        merges();
        conflicts();
        watches();
        questions();
        nothingThere();
        due.end();
    }

    private void badChanges() {
        for (int branch : new int[] {-1, 4}) {
            changesNothing("change(" + branch + ", 0, 1)", RefusalTest::begun, v -> v.change(branch, 0, 1), BAD);
        }
        for (int what : new int[] {-1, 11}) {
            changesNothing("change(0, " + what + ", 1)", RefusalTest::begun, v -> v.change(0, what, 1), BAD);
        }
        int[][] wrong = {{3, -1}, {3, 32}, {4, -1}, {4, 32}, {5, -1}, {5, 16}};
        for (int[] w : wrong) {
            changesNothing("change(0, " + w[0] + ", " + w[1] + ")", RefusalTest::begun,
                    v -> v.change(0, w[0], w[1]), BAD);
        }
    }

    private void unfitChanges() {
        // In the set, not in it, in the queue, eight in the queue, no queue, no option.
        int[][] unfit = {{0, 3, 31}, {0, 4, 5}, {0, 5, 9}, {1, 5, 15}, {2, 6, 0}, {2, 8, 0}};
        for (int[] u : unfit) {
            changesNothing("change(" + u[0] + ", " + u[1] + ", " + u[2] + ")", RefusalTest::begun,
                    v -> v.change(u[0], u[1], u[2]), UNFIT);
        }
    }

    private void fullChanges() {
        for (int what : new int[] {0, 1, 2, 3, 5, 7, 9, 10}) {
            changesNothing("change(0, " + what + ", 7), full", RefusalTest::full, v -> v.change(0, what, 7), FULL);
            changesNothing("change(2, " + what + ", 7), full", RefusalTest::full, v -> v.change(2, what, 7), FULL);
        }
        changesNothing("change(0, 4, 31), full", RefusalTest::full, v -> v.change(0, 4, 31), FULL);
        changesNothing("change(0, 6, 0), full", RefusalTest::full, v -> v.change(0, 6, 0), FULL);
        changesNothing("change(0, 8, 0), full", RefusalTest::full, v -> v.change(0, 8, 0), FULL);
    }

    private void forks() {
        for (int branch : new int[] {-1, 4}) {
            changesNothing("fork(" + branch + ", 0)", RefusalTest::begun, v -> number(v.fork(branch, 0)), REFUSED);
            changesNothing("fork(0, " + branch + ")", RefusalTest::begun, v -> number(v.fork(0, branch)), REFUSED);
        }
    }

    private void swaps() {
        int[][] wrong = {
            {-1, -1, 0}, {4, -1, 0}, {0, 11, 14}, {0, 11, -2}, {2, -1, 14},
            {0, 10, 0}, {0, -1, 0}, {2, 0, 0}, {2, -2, 0}
        };
        for (int[] w : wrong) {
            changesNothing("swap(" + w[0] + ", " + w[1] + ", " + w[2] + ")", RefusalTest::begun,
                    v -> number(v.swap(w[0], w[1], w[2])), REFUSED);
        }
    }

    private void merges() {
        int[][] wrong = {{-1, 0}, {4, 0}, {0, -1}, {0, 4}, {2, 0}, {2, 2}};
        for (int[] w : wrong) {
            changesNothing("merge(" + w[0] + ", " + w[1] + ")", RefusalTest::begun, v -> v.merge(w[0], w[1]), BAD);
        }
        changesNothing("merge(1, 0), full", RefusalTest::full, v -> v.merge(1, 0), FULL);
        changesNothing("merge(0, 1), full", RefusalTest::full, v -> v.merge(0, 1), FULL);
    }

    private void conflicts() {
        for (int cell : new int[] {2, 4, 5, 6}) {
            Consumer<Run> laid = run -> conflicting(run, cell);
            changesNothing("merge(1, 0), conflict at " + cell, laid, v -> v.merge(1, 0), CONFLICT - cell);
            changesNothing("merge(0, 1), conflict at " + cell, laid, v -> v.merge(0, 1), CONFLICT - cell);
        }
        changesNothing("merge(3, 2), conflict of the base", RefusalTest::clashing, v -> v.merge(3, 2), CONFLICT - 6);
        changesNothing("merge(2, 3), conflict of the base", RefusalTest::clashing, v -> v.merge(2, 3), CONFLICT - 6);
    }

    private void watches() {
        for (int branch : new int[] {-1, 4}) {
            for (boolean on : new boolean[] {false, true}) {
                changesNothing("watch(" + branch + ", " + on + ")", RefusalTest::begun,
                        v -> number(v.watch(branch, on)), REFUSED);
            }
        }
    }

    private void questions() {
        for (int none : new int[] {-1, 100}) {
            changesNothing("head(" + none + ")", RefusalTest::begun, v -> v.head(none), BAD);
            changesNothing("parent(" + none + ", 0)", RefusalTest::begun, v -> v.parent(none, 0), BAD);
            changesNothing("parent(0, " + none + ")", RefusalTest::begun, v -> v.parent(0, none), BAD);
            changesNothing("ancestors(" + none + ")", RefusalTest::begun, v -> v.ancestors(none), BAD);
            changesNothing("meet(" + none + ", 0, 0)", RefusalTest::begun, v -> v.meet(none, 0, 0), BAD);
            changesNothing("meet(0, " + none + ", 0)", RefusalTest::begun, v -> v.meet(0, none, 0), BAD);
            changesNothing("meet(0, 0, " + none + ")", RefusalTest::begun, v -> v.meet(0, 0, none), BAD);
            changesNothing("value(" + none + ", 0)", RefusalTest::begun, v -> v.value(none, 0), BAD);
            changesNothing("value(0, " + none + ")", RefusalTest::begun, v -> v.value(0, none), BAD);
            changesNothing("queued(" + none + ", 0)", RefusalTest::begun, v -> v.queued(none, 0), BAD);
            changesNothing("queued(0, " + none + ")", RefusalTest::begun, v -> v.queued(0, none), BAD);
            changesNothing("time(" + none + ")", RefusalTest::begun, v -> v.time(none), BAD);
            changesNothing("hash(" + none + ")", RefusalTest::begun, v -> v.hash(none), 0);
            changesNothing("event(" + none + ")", RefusalTest::begun, v -> v.event(none), BAD);
        }
    }

    private void nothingThere() {
        Consumer<Run> nothing = run -> run.commits(0);
        changesNothing("merge(0, 1), nothing there", nothing, v -> v.merge(0, 1), BAD);
        changesNothing("swap(0, -1, 0), nothing there", nothing, v -> number(v.swap(0, -1, 0)), REFUSED);
        changesNothing("change(0, 4, 0), nothing there", nothing, v -> v.change(0, 4, 0), UNFIT);
        changesNothing("change(0, 6, 0), nothing there", nothing, v -> v.change(0, 6, 0), UNFIT);
        changesNothing("change(0, 8, 0), nothing there", nothing, v -> v.change(0, 8, 0), UNFIT);
        changesNothing("change(4, 0, 1), nothing there", nothing, v -> v.change(4, 0, 1), BAD);
    }

    /** Branch 0 with something in each cell, 1 with a full queue, 2 without a head; 0 and 2 watched. */
    private static void begun(Run run) {
        run.watch(0, true, true);
        run.watch(2, true, true);
        run.change(0, 0, 4, 0);
        run.change(0, 3, 31, 1);
        run.change(0, 5, 9, 2);
        run.fork(0, 1, true);
        run.change(0, 1, -6, 3);
        for (int element = 0; element < 7; element++) {
            run.change(1, 5, element, 4 + element);
        }
        run.change(0, 7, 5, 11);
        run.fork(0, 3, true);
        run.change(3, 2, 8, 12);
        run.change(3, 10, 7, 13);
    }

    private static void full(Run run) {
        begun(run);
        run.fillUp(3, 14, 60);
    }

    private static void conflicting(Run run, int cell) {
        run.watch(0, true, true);
        run.change(0, 7, 1, 0);
        run.fork(0, 1, true);
        run.change(0, 0, 3, 1);
        run.change(1, 1, 4, 2);
        Cells.layConflict(run, cell, 3);
    }

    private static void clashing(Run run) {
        ClashingMeets.lay(run, 10);
        run.put(2, 4);
        run.put(3, 6);
        run.watch(2, true, true);
    }

    private static long number(boolean answer) {
        return answer ? 1 : 0;
    }

    private void changesNothing(String call, Consumer<Run> laid, ToLongFunction<MergeVault> refused, long want) {
        Run told = new Run(due, call);
        Run spared = new Run(due, call);
        laid.accept(told);
        laid.accept(spared);
        due.is(call, refused.applyAsLong(told.vault()), want);
        List<Long> one = life(told.vault());
        List<Long> other = life(spared.vault());
        due.holds(call + " changes nothing: the same is told from then on", one.equals(other));
        due.holds(call + ": there are calls left", one.size() < told.callsLeft());
    }

    /** All that an object tells, then what it does with more calls, then again all that it tells. */
    private static List<Long> life(MergeVault vault) {
        List<Long> answers = new ArrayList<>();
        tell(vault, answers);
        goOn(vault, answers);
        tell(vault, answers);
        return answers;
    }

    private static void tell(MergeVault vault, List<Long> answers) {
        int commits = vault.commits();
        answers.add((long) commits);
        for (int commit = 0; commit <= commits; commit++) {
            answers.add(vault.hash(commit));
        }
        int events = vault.events();
        answers.add((long) events);
        for (int i = 0; i <= events; i++) {
            answers.add((long) vault.event(i));
        }
        for (int branch = 0; branch < 4; branch++) {
            int head = vault.head(branch);
            answers.add((long) head);
            for (int what = 0; what < 10; what++) {
                answers.add(vault.value(head, what));
            }
            answers.add((long) vault.queued(head, 0));
            answers.add((long) vault.time(head));
        }
    }

    private static void goOn(MergeVault vault, List<Long> answers) {
        for (int branch = 0; branch < 4; branch++) {
            int head = vault.head(branch);
            answers.add((long) head);
            answers.add(number(vault.swap(branch, head, 0)));
            answers.add((long) vault.change(branch, 0, 1));
            answers.add((long) vault.change(branch, 1, 2));
            answers.add((long) vault.merge(branch, (branch + 1) % 4));
        }
        // A commit without a parent shows the empty tree.
        int head = vault.head(0);
        answers.add((long) head);
        answers.add(number(vault.swap(0, head, -1)));
        answers.add((long) vault.change(0, 0, 0));
    }
}
