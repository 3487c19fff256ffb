import java.util.Arrays;
import java.util.Random;

/** Promises 1 to 17: many runs of calls, each answered by the class and by the model alike. */
public final class ModelTest {
    private static final int CALLS = 300;
    private static final int[] ODD = {-2, -1, 4, 11, 16, 32, 60, 64, Integer.MIN_VALUE, Integer.MAX_VALUE};

    /** What the changes of a run are about: everything, or a few things that get in each other's way. */
    private static final int[][] WHATS = {
        {0, 1, 2, 3, 4, 5, 6, 7, 8, 9, 10}, {5, 5, 6}, {0, 7, 7, 8}, {0, 1, 3, 4, 5, 6, 9}, {2, 2, 10}, {3, 4}
    };

    /** Of so many runs, one has pairs of commits over pairs, for the bases of their meets. */
    private static final int LADDERS = 3;

    private final Due due;
    private final Random random;
    private final String name;
    private final int kind;
    private final boolean ladder;
    private final MergeVault vault = new MergeVault();
    private final Model model = new Model();

    private ModelTest(Due due, int seed) {
        this.due = due;
        this.random = new Random(seed);
        this.name = "run " + seed;
        this.kind = seed % WHATS.length;
        this.ladder = seed / WHATS.length % LADDERS == 0;
    }

    public static void main(String[] args) {
        int runs = args.length == 0 ? 2000 : Integer.parseInt(args[0]);
        Due due = new Due("ModelTest");
        int[] bases = new int[7];
        int[] mergings = new int[7];
        int deepest = 0;
        int mostMeets = 0;
        int mostEvents = 0;
        int full = 0;
        for (int seed = 0; seed < runs; seed++) {
            ModelTest test = new ModelTest(due, seed);
            test.run();
            for (int cell = 0; cell < 7; cell++) {
                bases[cell] += test.model.clashesOfBases[cell];
                mergings[cell] += test.model.clashesOfMergings[cell];
            }
            deepest = Math.max(deepest, test.model.deepestBase);
            mostMeets = Math.max(mostMeets, test.model.mostMeets);
            mostEvents = Math.max(mostEvents, test.model.events());
            full += test.model.commits() == 60 ? 1 : 0;
        }
        System.out.println("ModelTest: " + runs + " runs, " + full + " of them full; conflicts of bases "
                + Arrays.toString(bases) + ", of mergings " + Arrays.toString(mergings) + "; deepest base "
                + deepest + ", most meets " + mostMeets + ", most events " + mostEvents);
        for (int cell : new int[] {2, 4, 5, 6}) {
            due.holds("there are conflicts of bases at " + cell, bases[cell] > 0);
            due.holds("there are conflicts of mergings at " + cell, mergings[cell] > 0);
        }
        due.holds("bases go to the last depth", deepest == 4);
        due.holds("there are three meets and more", mostMeets >= 3);
        due.holds("there are full vaults and full logs", full > 0 && mostEvents == 100);
        due.end();
    }

    private void run() {
        for (int i = ladder ? climb() : 0; i < CALLS; i++) {
            int dice = random.nextInt(100);
            if (dice < 32) {
                change(branch());
            } else if (dice < 38) {
                fork(branch(), branch());
            } else if (dice < 48) {
                swap();
            } else if (dice < 66) {
                merge(branch(), branch());
            } else if (dice < 72) {
                i += crossMerge();
            } else if (dice < 75) {
                watch();
            } else {
                ask();
            }
        }
        compareAll();
    }

    private boolean rarely() {
        return random.nextInt(40) == 0;
    }

    private int odd() {
        return ODD[random.nextInt(ODD.length)];
    }

    private int branch() {
        return rarely() ? odd() : random.nextInt(4);
    }

    private int commit() {
        return rarely() ? odd() : random.nextInt(model.commits() + 1);
    }

    private void change(int branch) {
        int what = rarely() ? odd() : WHATS[kind][random.nextInt(WHATS[kind].length)];
        long x;
        if (rarely()) {
            x = random.nextLong();
        } else if (what == 2 || what == 7 || what == 10) {
            x = random.nextInt(3);
        } else {
            x = random.nextInt(kind == 1 || kind == 5 ? 4 : 17);
        }
        is("change(" + branch + ", " + what + ", " + x + ")",
                vault.change(branch, what, x), model.change(branch, what, x));
    }

    private void fork(int from, int to) {
        is("fork(" + from + ", " + to + ")", vault.fork(from, to), model.fork(from, to));
    }

    private void merge(int from, int into) {
        is("merge(" + from + ", " + into + ")", vault.merge(from, into), model.merge(from, into));
    }

    private void swap() {
        int branch = branch();
        int expected = random.nextInt(8) == 0 ? commit() : model.head(branch);
        int next = random.nextInt(12) == 0 ? -1 : commit();
        is("swap(" + branch + ", " + expected + ", " + next + ")",
                vault.swap(branch, expected, next), model.swap(branch, expected, next));
    }

    /** Merges two branches both ways, so that they come to have two meets, one pair over another. */
    private int crossMerge() {
        cross(random.nextInt(4));
        return 2;
    }

    private void cross(int one) {
        int other = (one + 1) % 4;
        int kept = (one + 2) % 4;
        fork(one, kept);
        merge(other, one);
        merge(kept, other);
    }

    /** Branches 0 and 1 are changed a little and merged both ways, again and again; counts the calls. */
    private int climb() {
        int calls = 2;
        change(0);
        fork(0, 1);
        for (int step = 0; step < 12; step++) {
            int changes = 1 + random.nextInt(3);
            for (int i = 0; i < changes; i++) {
                change(random.nextInt(2));
            }
            cross(0);
            calls += changes + 3;
        }
        return calls;
    }

    private void watch() {
        int branch = branch();
        boolean on = random.nextInt(3) > 0;
        is("watch(" + branch + ", " + on + ")", vault.watch(branch, on), model.watch(branch, on));
    }

    private void ask() {
        int c = commit();
        int d = commit();
        int i = rarely() ? odd() : random.nextInt(4);
        int what = random.nextInt(12) - 1;
        switch (random.nextInt(8)) {
            case 0 -> is("head(" + i + ")", vault.head(i), model.head(i));
            case 1 -> is("parent(" + c + ", " + i + ")", vault.parent(c, i), model.parent(c, i));
            case 2 -> is("ancestors(" + c + ")", vault.ancestors(c), model.ancestors(c));
            case 3 -> is("meet(" + c + ", " + d + ", " + i + ")", vault.meet(c, d, i), model.meet(c, d, i));
            case 4 -> is("value(" + c + ", " + what + ")", vault.value(c, what), model.value(c, what));
            case 5 -> is("queued(" + c + ", " + what + ")", vault.queued(c, what), model.queued(c, what));
            case 6 -> is("time(" + c + ")", vault.time(c), model.time(c));
            default -> is("event(" + c + ")", vault.event(c), model.event(c));
        }
    }

    /** With the calls before, these stay under the 512 of the document. */
    private void compareAll() {
        is("commits()", vault.commits(), model.commits());
        is("events()", vault.events(), model.events());
        for (int branch = 0; branch < 4; branch++) {
            is("head(" + branch + ")", vault.head(branch), model.head(branch));
        }
        for (int i = 0; i <= model.events(); i++) {
            is("event(" + i + ")", vault.event(i), model.event(i));
        }
        long[] hashes = model.hashes();
        for (int commit = 0; commit < hashes.length; commit++) {
            is("hash(" + commit + ")", vault.hash(commit), hashes[commit]);
        }
        is("hash(" + hashes.length + ")", vault.hash(hashes.length), 0);
    }

    private void is(String call, long got, long want) {
        due.is(name + ": " + call, got, want);
    }

    private void is(String call, boolean got, boolean want) {
        is(call, got ? 1 : 0, want ? 1 : 0);
    }
}
