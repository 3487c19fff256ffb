import java.util.Arrays;

/** A run of calls on a new object; the last argument of each is the answer that is due. */
final class Run {
    private static final int MOST_CALLS = 512;

    private final Due due;
    private final String name;
    private final MergeVault vault = new MergeVault();
    private int calls;

    Run(Due due, String name) {
        this.due = due;
        this.name = name;
    }

    /** For what is asked beside the run; such calls are not counted here. */
    MergeVault vault() {
        return vault;
    }

    private void is(String method, long got, long want, Object... arguments) {
        calls++;
        if (calls == MOST_CALLS + 1) {
            due.holds(name + ": that a run has no more calls than the document answers for", false);
        }
        String inside = Arrays.toString(arguments);
        due.is(name + ": " + method + "(" + inside.substring(1, inside.length() - 1) + ")", got, want);
    }

    private static long number(boolean answer) {
        return answer ? 1 : 0;
    }

    void change(int branch, int what, long x, int want) {
        is("change", vault.change(branch, what, x), want, branch, what, x);
    }

    void fork(int from, int to, boolean want) {
        is("fork", number(vault.fork(from, to)), number(want), from, to);
    }

    void swap(int branch, int expected, int next, boolean want) {
        is("swap", number(vault.swap(branch, expected, next)), number(want), branch, expected, next);
    }

    void merge(int from, int into, int want) {
        is("merge", vault.merge(from, into), want, from, into);
    }

    void watch(int branch, boolean watched, boolean want) {
        is("watch", number(vault.watch(branch, watched)), number(want), branch, watched);
    }

    void head(int branch, int want) {
        is("head", vault.head(branch), want, branch);
    }

    void commits(int want) {
        is("commits", vault.commits(), want);
    }

    void parent(int commit, int i, int want) {
        is("parent", vault.parent(commit, i), want, commit, i);
    }

    void ancestors(int commit, int want) {
        is("ancestors", vault.ancestors(commit), want, commit);
    }

    void meet(int c, int d, int i, int want) {
        is("meet", vault.meet(c, d, i), want, c, d, i);
    }

    void value(int commit, int what, long want) {
        is("value", vault.value(commit, what), want, commit, what);
    }

    void queued(int commit, int i, int want) {
        is("queued", vault.queued(commit, i), want, commit, i);
    }

    void time(int commit, int want) {
        is("time", vault.time(commit), want, commit);
    }

    void hash(int commit, long want) {
        is("hash", vault.hash(commit), want, commit);
    }

    void events(int want) {
        is("events", vault.events(), want);
    }

    void event(int i, int want) {
        is("event", vault.event(i), want, i);
    }

    /** Has a commit become the head of a branch, whatever it was; -1 for none. */
    void put(int branch, int commit) {
        int now = vault.head(branch);
        calls++;
        swap(branch, now, commit, true);
    }

    /** Merges two commits by way of branches 2 and 3; the head of 2, ours, stays if that is refused. */
    void mergeCommits(int ours, int theirs, int want) {
        put(2, ours);
        put(3, theirs);
        merge(3, 2, want);
    }

    /** Merges branches 0 and 1 both ways, by way of 2, so that their heads come to be the meets. */
    void cross(int next) {
        fork(0, 2, true);
        merge(1, 0, next);
        merge(2, 1, next + 1);
    }

    /** How many more calls the document answers for. */
    int callsLeft() {
        return MOST_CALLS - calls;
    }

    void holdsNoMoreCalls() {
        due.is(name + ": calls that are left", callsLeft(), 0);
    }

    /** The ten values of a commit, by their numbers. */
    void values(int commit, long... wants) {
        for (int what = 0; what < wants.length; what++) {
            value(commit, what, wants[what]);
        }
    }

    /** The whole queue of a commit, its length and that nothing stands behind its end. */
    void queue(int commit, int... wants) {
        value(commit, 5, wants.length);
        for (int i = 0; i < wants.length; i++) {
            queued(commit, i, wants[i]);
        }
        queued(commit, wants.length, MergeVault.BAD);
    }

    /** The whole log. */
    void log(int... wants) {
        events(wants.length);
        for (int i = 0; i < wants.length; i++) {
            event(i, wants[i]);
        }
        event(wants.length, MergeVault.BAD);
    }

    /** All the meets of two commits, asked both ways round. */
    void meets(int c, int d, int... wants) {
        for (int i = 0; i < wants.length; i++) {
            meet(c, d, i, wants[i]);
            meet(d, c, i, wants[i]);
        }
        meet(c, d, wants.length, MergeVault.BAD);
    }

    /** Makes a commit for each row, of what and x; answers the number that comes next. */
    int changes(int branch, long[][] rows, int from) {
        int next = from;
        for (long[] row : rows) {
            change(branch, (int) row[0], row[1], next);
            next++;
        }
        return next;
    }

    /** Makes commits on a branch by growing its counter by 0, until there are so many. */
    void fillUp(int branch, int from, int until) {
        for (int number = from; number < until; number++) {
            change(branch, 0, 0, number);
        }
    }
}
