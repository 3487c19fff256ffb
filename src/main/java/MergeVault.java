/** A store of commits whose trees have typed cells that are merged over their common past. */
public final class MergeVault {

    public static final int BAD = -1;
    public static final int FULL = -2;
    public static final int UNFIT = -3;
    public static final int CONFLICT = -10;

    private static final int BRANCHES = 4;
    private static final int MOST_COMMITS = 60;
    private static final int MOST_EVENTS = 100;
    private static final int LAST_DEPTH = 4;

    /** In place of a commit's number: there is none. */
    private static final int NONE = -1;

    /** The outcome of a merging without a conflict; every conflict is negative. */
    private static final int FINE = 0;

    private final Commit[] made;
    private int madeCount;
    private final int[] heads;
    private final boolean[] watching;
    private final int[] log;
    private int logged;
    private final Tree empty;
    private final Merger merger;

    /** The tree that the next commit is to have, made ready here so that a refusal keeps nothing. */
    private final Tree draft;

    /** One tree a depth, so that no base that is being merged is overwritten by a deeper one. */
    private final Tree[] bases;

    public MergeVault() {
        made = new Commit[MOST_COMMITS];
        heads = new int[BRANCHES];
        for (int branch = 0; branch < BRANCHES; branch++) {
            heads[branch] = NONE;
        }
        watching = new boolean[BRANCHES];
        log = new int[MOST_EVENTS];
        empty = new Tree();
        draft = new Tree();
        merger = new Merger();
        bases = new Tree[LAST_DEPTH + 1];
        for (int depth = 0; depth <= LAST_DEPTH; depth++) {
            bases[depth] = new Tree();
        }
    }

    public int change(int branch, int what, long x) {
        if (!isBranch(branch) || !Change.isInBounds(what, x)) {
            return BAD;
        }
        Commit head = commitAt(heads[branch]);
        Tree before = head == null ? empty : head.tree;
        if (!Change.fits(before, what, x)) {
            return UNFIT;
        }
        if (madeCount >= MOST_COMMITS) {
            return FULL;
        }
        draft.become(before);
        Change.apply(draft, what, x, madeCount + 1);
        return commitDraft(branch, head, null);
    }

    public boolean fork(int from, int to) {
        if (!isBranch(from) || !isBranch(to)) {
            return false;
        }
        moveHead(to, heads[from]);
        return true;
    }

    public boolean swap(int branch, int expected, int next) {
        if (!isBranch(branch) || next != NONE && !isCommit(next) || heads[branch] != expected) {
            return false;
        }
        moveHead(branch, next);
        return true;
    }

    public int merge(int from, int into) {
        if (!isBranch(from) || !isBranch(into)) {
            return BAD;
        }
        Commit theirs = commitAt(heads[from]);
        if (theirs == null) {
            return BAD;
        }
        Commit ours = commitAt(heads[into]);
        if (ours == null || theirs.descendsFrom(ours)) {
            moveHead(into, theirs.number);
            return theirs.number;
        }
        if (ours.descendsFrom(theirs)) {
            return ours.number;
        }
        if (madeCount >= MOST_COMMITS) {
            return FULL;
        }
        int outcome = draftMerging(ours, theirs);
        if (outcome != FINE) {
            return outcome;
        }
        return commitDraft(into, ours, theirs);
    }

    public boolean watch(int branch, boolean watched) {
        if (!isBranch(branch)) {
            return false;
        }
        watching[branch] = watched;
        return true;
    }

    public int head(int branch) {
        return isBranch(branch) && heads[branch] != NONE ? heads[branch] : BAD;
    }

    public int commits() {
        return madeCount;
    }

    public int parent(int commit, int i) {
        Commit child = commitAt(commit);
        if (child == null || i < 0 || i > 1) {
            return BAD;
        }
        Commit found = i == 0 ? child.first : child.second;
        return found == null ? BAD : found.number;
    }

    public int ancestors(int commit) {
        Commit asked = commitAt(commit);
        return asked == null ? BAD : Long.bitCount(asked.past);
    }

    public int meet(int c, int d, int i) {
        Commit one = commitAt(c);
        Commit other = commitAt(d);
        if (one == null || other == null || i < 0 || i >= MOST_COMMITS) {
            return BAD;
        }
        long meets = meetsOf(one, other);
        int found = nextIn(meets, 0);
        for (int skipped = 0; skipped < i && found != NONE; skipped++) {
            found = nextIn(meets, found + 1);
        }
        return found == NONE ? BAD : found;
    }

    public long value(int commit, int what) {
        Commit asked = commitAt(commit);
        if (asked == null) {
            return BAD;
        }
        Tree tree = asked.tree;
        switch (what) {
            case 0: return tree.counter;
            case 1: return tree.latest;
            case 2: return tree.stamp;
            case 3: return tree.plain;
            case 4: return tree.setAsSum();
            case 5: return Queue.length(tree.queue);
            case 6: return tree.option;
            case 7: return tree.hasOption ? 1 : 0;
            case 8: return tree.pairLong;
            case 9: return tree.pairInt;
            default: return BAD;
        }
    }

    public int queued(int commit, int i) {
        Commit asked = commitAt(commit);
        if (asked == null || i < 0 || i >= Queue.length(asked.tree.queue)) {
            return BAD;
        }
        return Queue.elementAt(asked.tree.queue, i);
    }

    public int time(int commit) {
        Commit asked = commitAt(commit);
        return asked == null ? BAD : asked.time;
    }

    public long hash(int commit) {
        Commit asked = commitAt(commit);
        return asked == null ? 0 : asked.hash;
    }

    public int events() {
        return logged;
    }

    public int event(int i) {
        return i >= 0 && i < logged ? log[i] : BAD;
    }

    private static boolean isBranch(int branch) {
        return branch >= 0 && branch < BRANCHES;
    }

    private boolean isCommit(int number) {
        return number >= 0 && number < madeCount;
    }

    private Commit commitAt(int number) {
        return isCommit(number) ? made[number] : null;
    }

    /** The caller has seen that there is room. */
    private int commitDraft(int branch, Commit first, Commit second) {
        int number = madeCount;
        made[number] = new Commit(number, first, second, draft);
        madeCount++;
        moveHead(branch, number);
        return number;
    }

    private void moveHead(int branch, int commit) {
        if (heads[branch] == commit) {
            return;
        }
        heads[branch] = commit;
        if (watching[branch] && logged < MOST_EVENTS) {
            log[logged] = branch + BRANCHES * (commit + 1);
            logged++;
        }
    }

    /** Lays the merging into the draft; answers FINE or the conflict. */
    private int draftMerging(Commit ours, Commit theirs) {
        int outcome = layBase(ours, theirs, 0);
        if (outcome != FINE) {
            return outcome;
        }
        draft.become(ours.tree);
        return merger.mergeInto(draft, bases[0], theirs.tree);
    }

    /** Lays the base at a depth into the tree kept for that depth; answers FINE or the conflict. */
    private int layBase(Commit c, Commit d, int depth) {
        Tree base = bases[depth];
        long meets = meetsOf(c, d);
        Commit first = commitAt(nextIn(meets, 0));
        base.become(first == null ? empty : first.tree);
        if (first == null || depth >= LAST_DEPTH) {
            return FINE;
        }
        for (int number = first.number + 1; number < madeCount; number++) {
            if (!isIn(meets, number)) {
                continue;
            }
            int outcome = layBase(first, made[number], depth + 1);
            if (outcome == FINE) {
                outcome = merger.mergeInto(base, bases[depth + 1], made[number].tree);
            }
            if (outcome != FINE) {
                return outcome;
            }
        }
        return FINE;
    }

    /** The meets as a set of commit numbers, 2^number for each. */
    private long meetsOf(Commit c, Commit d) {
        long common = c.past & d.past;
        long meets = common;
        for (int number = 0; number < madeCount; number++) {
            if (isIn(common, number)) {
                meets &= ~made[number].properPast();
            }
        }
        return meets;
    }

    private static boolean isIn(long numbers, int number) {
        return (numbers >>> number & 1) == 1;
    }

    private static int nextIn(long numbers, int from) {
        for (int number = from; number < MOST_COMMITS; number++) {
            if (isIn(numbers, number)) {
                return number;
            }
        }
        return NONE;
    }

    /** What a commit holds. An absent option is kept with the long 0, which mergings rely on. */
    private static final class Tree {
        long counter;
        int latest;
        int stamp;
        int plain;
        int set;
        long queue;
        boolean hasOption;
        long option;
        long pairLong;
        int pairInt;

        void become(Tree other) {
            counter = other.counter;
            latest = other.latest;
            stamp = other.stamp;
            plain = other.plain;
            set = other.set;
            queue = other.queue;
            hasOption = other.hasOption;
            option = other.option;
            pairLong = other.pairLong;
            pairInt = other.pairInt;
        }

        /** Without the sign that element 31 gives the int. */
        long setAsSum() {
            return set & 0xFFFFFFFFL;
        }
    }

    /** A queue is the long that its hash takes, (1 + element) * 32^place, so that it needs no row. */
    private static final class Queue {
        static final int MOST = 8;
        static final int ELEMENTS = 16;
        private static final int BITS = 5;
        private static final int PLACE_MASK = 31;

        /** Answers NONE behind the end. */
        static int elementAt(long queue, int place) {
            return (int) (queue >>> BITS * place & PLACE_MASK) - 1;
        }

        static int length(long queue) {
            int length = 0;
            while (length < MOST && elementAt(queue, length) != NONE) {
                length++;
            }
            return length;
        }

        static long withElement(long queue, int place, int element) {
            return queue | (long) (1 + element) << BITS * place;
        }

        static long withoutFirst(long queue) {
            return queue >>> BITS;
        }

        static int members(long queue) {
            int members = 0;
            for (int place = 0; place < MOST; place++) {
                int element = elementAt(queue, place);
                if (element == NONE) {
                    break;
                }
                members |= 1 << element;
            }
            return members;
        }

        /** The elements that stand before one; none if that one is not there. */
        static int standingBefore(long queue, int element) {
            int before = 0;
            for (int place = 0; place < MOST; place++) {
                int standing = elementAt(queue, place);
                if (standing == element) {
                    return before;
                }
                if (standing == NONE) {
                    break;
                }
                before |= 1 << standing;
            }
            return 0;
        }
    }

    /** The eleven changes of a tree, each with its bounds, its fitness and its effect. */
    private static final class Change {
        private static final int GROW_COUNTER = 0;
        private static final int SET_LATEST = 1;
        private static final int SET_PLAIN = 2;
        private static final int PUT_IN_SET = 3;
        private static final int TAKE_FROM_SET = 4;
        private static final int ENQUEUE = 5;
        private static final int DEQUEUE = 6;
        private static final int GROW_OPTION = 7;
        private static final int DROP_OPTION = 8;
        private static final int GROW_PAIR_LONG = 9;
        private static final int SET_PAIR_INT = 10;
        private static final int SET_ELEMENTS = 32;

        static boolean isInBounds(int what, long x) {
            switch (what) {
                case PUT_IN_SET:
                case TAKE_FROM_SET:
                    return x >= 0 && x < SET_ELEMENTS;
                case ENQUEUE:
                    return x >= 0 && x < Queue.ELEMENTS;
                default:
                    return what >= GROW_COUNTER && what <= SET_PAIR_INT;
            }
        }

        static boolean fits(Tree tree, int what, long x) {
            switch (what) {
                case PUT_IN_SET:
                    return !isIn(tree.setAsSum(), (int) x);
                case TAKE_FROM_SET:
                    return isIn(tree.setAsSum(), (int) x);
                case ENQUEUE:
                    return !isIn(Queue.members(tree.queue), (int) x)
                            && Queue.length(tree.queue) < Queue.MOST;
                case DEQUEUE:
                    return Queue.length(tree.queue) > 0;
                case DROP_OPTION:
                    return tree.hasOption;
                default:
                    return true;
            }
        }

        static void apply(Tree tree, int what, long x, int time) {
            switch (what) {
                case GROW_COUNTER:
                    tree.counter += x;
                    break;
                case SET_LATEST:
                    tree.latest = (int) x;
                    tree.stamp = time;
                    break;
                case SET_PLAIN:
                    tree.plain = (int) x;
                    break;
                case PUT_IN_SET:
                    tree.set |= 1 << (int) x;
                    break;
                case TAKE_FROM_SET:
                    tree.set &= ~(1 << (int) x);
                    break;
                case ENQUEUE:
                    tree.queue = Queue.withElement(tree.queue, Queue.length(tree.queue), (int) x);
                    break;
                case DEQUEUE:
                    tree.queue = Queue.withoutFirst(tree.queue);
                    break;
                case GROW_OPTION:
                    tree.hasOption = true;
                    tree.option += x;
                    break;
                case DROP_OPTION:
                    tree.hasOption = false;
                    tree.option = 0;
                    break;
                case GROW_PAIR_LONG:
                    tree.pairLong += x;
                    break;
                case SET_PAIR_INT:
                    tree.pairInt = (int) x;
                    break;
                default:
                    break;
            }
        }
    }

    /** A commit, never changed; its hash is kept, as one made anew would go through all its past. */
    private static final class Commit {
        private static final long HASH_START = -3750763034362895579L;
        private static final long HASH_FACTOR = 1099511628211L;

        final int number;
        final int time;
        final Commit first;
        final Commit second;
        final Tree tree;
        /** The ancestors as a set of commit numbers, 2^number for each. */
        final long past;
        final long hash;

        Commit(int number, Commit first, Commit second, Tree content) {
            this.number = number;
            this.time = number + 1;
            this.first = first;
            this.second = second;
            this.tree = new Tree();
            this.tree.become(content);
            this.past = 1L << number | pastOf(first) | pastOf(second);
            this.hash = hashWithTree(mixed(hashOfParents(first, second), this.time), content);
        }

        private static long pastOf(Commit commit) {
            return commit == null ? 0 : commit.past;
        }

        /** True of itself too, as a commit is its own ancestor. */
        boolean descendsFrom(Commit other) {
            return isIn(past, other.number);
        }

        long properPast() {
            return past & ~(1L << number);
        }

        private static long hashOfParents(Commit first, Commit second) {
            if (first == null) {
                return mixed(HASH_START, 0);
            }
            if (second == null) {
                return mixed(mixed(HASH_START, 1), first.hash);
            }
            return mixed(mixed(mixed(HASH_START, 2), first.hash), second.hash);
        }

        private static long hashWithTree(long start, Tree tree) {
            long h = mixed(start, tree.counter);
            h = mixed(h, tree.latest);
            h = mixed(h, tree.stamp);
            h = mixed(h, tree.plain);
            h = mixed(h, tree.setAsSum());
            h = mixed(h, tree.queue);
            h = mixed(h, tree.hasOption ? 1 : 0);
            h = mixed(h, tree.option);
            h = mixed(h, tree.pairLong);
            return mixed(h, tree.pairInt);
        }

        private static long mixed(long h, long word) {
            long result = h;
            for (int shift = 0; shift < 64; shift += 8) {
                result = (result ^ (word >>> shift & 255)) * HASH_FACTOR;
            }
            return result;
        }
    }

    /** Merges trees cell by cell; one is kept for all mergings, for the row that a queue needs. */
    private static final class Merger {
        private static final int PLAIN = 2;
        private static final int QUEUE = 4;
        private static final int OPTION = 5;
        private static final int PAIR = 6;

        /** No queue is negative. */
        private static final long NO_QUEUE = -1;

        /** For each member of the queue being merged, the ones that go before it, 2^element for each. */
        private final int[] before = new int[Queue.ELEMENTS];

        /** X becomes the merging; answers FINE or the conflict, x then being of no more use. */
        int mergeInto(Tree x, Tree b, Tree y) {
            x.counter = mergedLong(b.counter, x.counter, y.counter);
            mergeLatest(x, y);
            if (clash(b.plain, x.plain, y.plain)) {
                return CONFLICT - PLAIN;
            }
            x.plain = mergedInt(b.plain, x.plain, y.plain);
            x.set = mergedSet(b.set, x.set, y.set);
            x.queue = mergedQueue(b.queue, x.queue, y.queue);
            if (x.queue == NO_QUEUE) {
                return CONFLICT - QUEUE;
            }
            if (!mergeOption(x, b, y)) {
                return CONFLICT - OPTION;
            }
            if (clash(b.pairInt, x.pairInt, y.pairInt)) {
                return CONFLICT - PAIR;
            }
            x.pairLong = mergedLong(b.pairLong, x.pairLong, y.pairLong);
            x.pairInt = mergedInt(b.pairInt, x.pairInt, y.pairInt);
            return FINE;
        }

        private static long mergedLong(long b, long x, long y) {
            return x + y - b;
        }

        private static boolean clash(int b, int x, int y) {
            return x != b && y != b && x != y;
        }

        /** Of ints that do not clash. */
        private static int mergedInt(int b, int x, int y) {
            return x == b ? y : x;
        }

        private static int mergedSet(int b, int x, int y) {
            return b & x & y | x & ~b | y & ~b;
        }

        private static void mergeLatest(Tree x, Tree y) {
            if (y.stamp > x.stamp || y.stamp == x.stamp && y.latest > x.latest) {
                x.latest = y.latest;
                x.stamp = y.stamp;
            }
        }

        /** Answers whether there is no conflict. */
        private static boolean mergeOption(Tree x, Tree b, Tree y) {
            if (x.hasOption == y.hasOption) {
                x.option = x.hasOption ? mergedLong(b.option, x.option, y.option) : 0;
                return true;
            }
            long only = x.hasOption ? x.option : y.option;
            if (b.hasOption && b.option != only) {
                return false;
            }
            x.hasOption = !b.hasOption;
            x.option = b.hasOption ? 0 : only;
            return true;
        }

        /** Answers NO_QUEUE for a conflict. */
        private long mergedQueue(long b, long x, long y) {
            int left = mergedSet(Queue.members(b), Queue.members(x), Queue.members(y));
            int size = Integer.bitCount(left);
            if (size > Queue.MOST) {
                return NO_QUEUE;
            }
            // What goes before a member is found as members are: in all three, or new in x or in y.
            for (int element = 0; element < Queue.ELEMENTS; element++) {
                if (isIn(left, element)) {
                    before[element] = mergedSet(Queue.standingBefore(b, element),
                            Queue.standingBefore(x, element), Queue.standingBefore(y, element));
                }
            }
            long queue = 0;
            for (int place = 0; place < size; place++) {
                int next = leastFree(left);
                if (next == NONE) {
                    return NO_QUEUE;
                }
                queue = Queue.withElement(queue, place, next);
                left &= ~(1 << next);
            }
            return queue;
        }

        private int leastFree(int left) {
            for (int element = 0; element < Queue.ELEMENTS; element++) {
                if (isIn(left, element) && (before[element] & left) == 0) {
                    return element;
                }
            }
            return NONE;
        }
    }
}
