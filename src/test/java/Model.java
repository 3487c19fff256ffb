import java.util.ArrayList;
import java.util.HashSet;
import java.util.List;
import java.util.Set;
import java.util.TreeSet;

/** The document once more, in its own words and with the library's collections, to compare with. */
final class Model {
    /** A merging that is none. */
    static final class Clash extends Exception {
        private static final long serialVersionUID = 1;
        final int cell;

        Clash(int cell) {
            this.cell = cell;
        }
    }

    static final class Content {
        long counter;
        int latest;
        int stamp;
        int plain;
        Set<Integer> set = new TreeSet<>();
        List<Integer> queue = new ArrayList<>();
        Long option;
        long pairLong;
        int pairInt;

        Content copy() {
            Content copy = new Content();
            copy.counter = counter;
            copy.latest = latest;
            copy.stamp = stamp;
            copy.plain = plain;
            copy.set.addAll(set);
            copy.queue.addAll(queue);
            copy.option = option;
            copy.pairLong = pairLong;
            copy.pairInt = pairInt;
            return copy;
        }
    }

    static final class Version {
        int number;
        List<Version> parents = new ArrayList<>();
        int time;
        Content content;
        /** Kept, as they stay what they are and are asked for often. */
        private Set<Version> found;

        Set<Version> ancestors() {
            if (found == null) {
                found = new HashSet<>(Set.of(this));
                for (Version parent : parents) {
                    found.addAll(parent.ancestors());
                }
            }
            return found;
        }
    }

    private final List<Version> versions = new ArrayList<>();
    private final Version[] heads = new Version[4];
    private final boolean[] watched = new boolean[4];
    private final List<Integer> log = new ArrayList<>();

    /** What the calls have come to, so that a test can see that it has been there. */
    final int[] clashesOfBases = new int[7];
    final int[] clashesOfMergings = new int[7];
    int deepestBase;
    int mostMeets;

    int change(int branch, int what, long x) {
        if (branch < 0 || branch > 3 || what < 0 || what > 10) {
            return -1;
        }
        if ((what == 3 || what == 4) && (x < 0 || x > 31) || what == 5 && (x < 0 || x > 15)) {
            return -1;
        }
        Content content = heads[branch] == null ? new Content() : heads[branch].content.copy();
        int element = (int) x;
        boolean unfit = what == 3 && content.set.contains(element)
                || what == 4 && !content.set.contains(element)
                || what == 5 && (content.queue.contains(element) || content.queue.size() == 8)
                || what == 6 && content.queue.isEmpty()
                || what == 8 && content.option == null;
        if (unfit) {
            return -3;
        }
        if (versions.size() == 60) {
            return -2;
        }
        changeContent(content, what, x);
        return add(branch, content, heads[branch] == null ? List.of() : List.of(heads[branch]));
    }

    private void changeContent(Content content, int what, long x) {
        switch (what) {
            case 0 -> content.counter += x;
            case 1 -> {
                content.latest = (int) x;
                content.stamp = versions.size() + 1;
            }
            case 2 -> content.plain = (int) x;
            case 3 -> content.set.add((int) x);
            case 4 -> content.set.remove((int) x);
            case 5 -> content.queue.add((int) x);
            case 6 -> content.queue.remove(0);
            case 7 -> content.option = content.option == null ? x : content.option + x;
            case 8 -> content.option = null;
            case 9 -> content.pairLong += x;
            default -> content.pairInt = (int) x;
        }
    }

    private int add(int branch, Content content, List<Version> parents) {
        Version version = new Version();
        version.number = versions.size();
        version.time = versions.size() + 1;
        version.parents.addAll(parents);
        version.content = content;
        versions.add(version);
        become(branch, version);
        return version.number;
    }

    private void become(int branch, Version version) {
        boolean other = heads[branch] != version;
        heads[branch] = version;
        if (other && watched[branch] && log.size() < 100) {
            log.add(branch + (version == null ? 0 : 4 * (version.number + 1)));
        }
    }

    boolean fork(int from, int to) {
        if (from < 0 || from > 3 || to < 0 || to > 3) {
            return false;
        }
        become(to, heads[from]);
        return true;
    }

    boolean swap(int branch, int expected, int next) {
        if (branch < 0 || branch > 3 || next < -1 || next >= versions.size()) {
            return false;
        }
        int now = heads[branch] == null ? -1 : heads[branch].number;
        if (now != expected) {
            return false;
        }
        become(branch, next == -1 ? null : versions.get(next));
        return true;
    }

    int merge(int from, int into) {
        if (from < 0 || from > 3 || into < 0 || into > 3 || heads[from] == null) {
            return -1;
        }
        Version theirs = heads[from];
        Version ours = heads[into];
        if (ours == null || theirs.ancestors().contains(ours)) {
            become(into, theirs);
            return theirs.number;
        }
        if (ours.ancestors().contains(theirs)) {
            return ours.number;
        }
        if (versions.size() == 60) {
            return -2;
        }
        Content base;
        try {
            base = base(ours, theirs, 0);
        } catch (Clash clash) {
            clashesOfBases[clash.cell]++;
            return -10 - clash.cell;
        }
        try {
            return add(into, merging(base, ours.content, theirs.content), List.of(ours, theirs));
        } catch (Clash clash) {
            clashesOfMergings[clash.cell]++;
            return -10 - clash.cell;
        }
    }

    private static List<Version> meets(Version c, Version d) {
        Set<Version> common = new HashSet<>(c.ancestors());
        common.retainAll(d.ancestors());
        List<Version> meets = new ArrayList<>();
        for (Version one : common) {
            boolean below = false;
            for (Version other : common) {
                below |= other != one && other.ancestors().contains(one);
            }
            if (!below) {
                meets.add(one);
            }
        }
        meets.sort((a, b) -> Integer.compare(a.number, b.number));
        return meets;
    }

    private Content base(Version c, Version d, int depth) throws Clash {
        List<Version> meets = meets(c, d);
        deepestBase = Math.max(deepestBase, depth);
        mostMeets = Math.max(mostMeets, meets.size());
        if (meets.isEmpty()) {
            return new Content();
        }
        Content base = meets.get(0).content;
        if (depth < 4) {
            for (Version meet : meets.subList(1, meets.size())) {
                base = merging(base(meets.get(0), meet, depth + 1), base, meet.content);
            }
        }
        return base;
    }

    private static Content merging(Content b, Content x, Content y) throws Clash {
        Content merged = new Content();
        merged.counter = x.counter + y.counter - b.counter;
        boolean takeX = x.stamp != y.stamp ? x.stamp > y.stamp : x.latest > y.latest;
        merged.latest = takeX ? x.latest : y.latest;
        merged.stamp = takeX ? x.stamp : y.stamp;
        merged.plain = plain(b.plain, x.plain, y.plain, 2);
        merged.set = set(b.set, x.set, y.set);
        merged.queue = queue(b.queue, x.queue, y.queue);
        merged.option = option(b.option, x.option, y.option);
        merged.pairLong = x.pairLong + y.pairLong - b.pairLong;
        merged.pairInt = plain(b.pairInt, x.pairInt, y.pairInt, 6);
        return merged;
    }

    private static int plain(int b, int x, int y, int cell) throws Clash {
        if (x == b) {
            return y;
        }
        if (y == b || x == y) {
            return x;
        }
        throw new Clash(cell);
    }

    private static Set<Integer> set(Set<Integer> b, Set<Integer> x, Set<Integer> y) {
        Set<Integer> merged = new TreeSet<>();
        for (int e = 0; e < 32; e++) {
            boolean inAll = b.contains(e) && x.contains(e) && y.contains(e);
            if (inAll || x.contains(e) && !b.contains(e) || y.contains(e) && !b.contains(e)) {
                merged.add(e);
            }
        }
        return merged;
    }

    private static List<Integer> queue(List<Integer> b, List<Integer> x, List<Integer> y) throws Clash {
        Set<Integer> left = set(new TreeSet<>(b), new TreeSet<>(x), new TreeSet<>(y));
        if (left.size() > 8) {
            throw new Clash(4);
        }
        List<Integer> merged = new ArrayList<>();
        while (!left.isEmpty()) {
            Integer taken = null;
            for (Integer v : left) {
                boolean free = true;
                for (Integer u : left) {
                    free &= u.equals(v) || !goesBefore(u, v, b, x, y);
                }
                if (free) {
                    taken = v;
                    break;
                }
            }
            if (taken == null) {
                throw new Clash(4);
            }
            merged.add(taken);
            left.remove(taken);
        }
        return merged;
    }

    private static boolean goesBefore(Integer u, Integer v, List<Integer> b, List<Integer> x, List<Integer> y) {
        return stands(u, v, b) && stands(u, v, x) && stands(u, v, y)
                || stands(u, v, x) && !stands(u, v, b)
                || stands(u, v, y) && !stands(u, v, b);
    }

    private static boolean stands(Integer u, Integer v, List<Integer> queue) {
        return queue.contains(u) && queue.contains(v) && queue.indexOf(u) < queue.indexOf(v);
    }

    private static Long option(Long b, Long x, Long y) throws Clash {
        if (x == null && y == null) {
            return null;
        }
        if (x != null && y != null) {
            return x + y - (b == null ? 0 : b);
        }
        Long v = x != null ? x : y;
        if (b == null) {
            return v;
        }
        if (b.equals(v)) {
            return null;
        }
        throw new Clash(5);
    }

    boolean watch(int branch, boolean on) {
        if (branch < 0 || branch > 3) {
            return false;
        }
        watched[branch] = on;
        return true;
    }

    int head(int branch) {
        return branch < 0 || branch > 3 || heads[branch] == null ? -1 : heads[branch].number;
    }

    int commits() {
        return versions.size();
    }

    private Version version(int number) {
        return number < 0 || number >= versions.size() ? null : versions.get(number);
    }

    int parent(int commit, int i) {
        Version version = version(commit);
        return version == null || i < 0 || i >= version.parents.size() ? -1 : version.parents.get(i).number;
    }

    int ancestors(int commit) {
        Version version = version(commit);
        return version == null ? -1 : version.ancestors().size();
    }

    int meet(int c, int d, int i) {
        if (version(c) == null || version(d) == null) {
            return -1;
        }
        List<Version> meets = meets(version(c), version(d));
        return i < 0 || i >= meets.size() ? -1 : meets.get(i).number;
    }

    private static long sum(Set<Integer> set) {
        long sum = 0;
        for (int element : set) {
            sum += Math.round(Math.pow(2, element));
        }
        return sum;
    }

    long value(int commit, int what) {
        Version version = version(commit);
        if (version == null) {
            return -1;
        }
        Content content = version.content;
        return switch (what) {
            case 0 -> content.counter;
            case 1 -> content.latest;
            case 2 -> content.stamp;
            case 3 -> content.plain;
            case 4 -> sum(content.set);
            case 5 -> content.queue.size();
            case 6 -> content.option == null ? 0 : content.option;
            case 7 -> content.option == null ? 0 : 1;
            case 8 -> content.pairLong;
            case 9 -> content.pairInt;
            default -> -1;
        };
    }

    int queued(int commit, int i) {
        Version version = version(commit);
        if (version == null || i < 0 || i >= version.content.queue.size()) {
            return -1;
        }
        return version.content.queue.get(i);
    }

    int time(int commit) {
        return version(commit) == null ? -1 : version(commit).time;
    }

    /** Made from the first commit on, so that each parent's hash is there when it is due. */
    long[] hashes() {
        long[] hashes = new long[versions.size()];
        for (Version version : versions) {
            List<Long> words = new ArrayList<>();
            words.add((long) version.parents.size());
            for (Version parent : version.parents) {
                words.add(hashes[parent.number]);
            }
            words.add((long) version.time);
            for (int what = 0; what <= 4; what++) {
                words.add(value(version.number, what));
            }
            words.add(Hash.queue(numbers(version.content.queue)));
            words.add(value(version.number, 7));
            words.add(value(version.number, 6));
            words.add(value(version.number, 8));
            words.add(value(version.number, 9));
            hashes[version.number] = Hash.of(words.stream().mapToLong(Long::longValue).toArray());
        }
        return hashes;
    }

    private static int[] numbers(List<Integer> row) {
        return row.stream().mapToInt(Integer::intValue).toArray();
    }

    int events() {
        return log.size();
    }

    int event(int i) {
        return i < 0 || i >= log.size() ? -1 : log.get(i);
    }
}
