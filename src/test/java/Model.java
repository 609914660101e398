import java.util.ArrayList;
import java.util.Arrays;
import java.util.Collections;
import java.util.IdentityHashMap;
import java.util.List;
import java.util.Set;

/**
 * The document's words in their plainest form, to compare with: an OWN leaf is an object that is
 * itself and no other, and what there is is counted by looking at all arrays.
 */
public final class Model {
    private static final class Leaf {
        final boolean own;
        int[] values;

        Leaf(boolean own, int[] values) {
            this.own = own;
            this.values = values;
        }
    }

    private final List<List<Leaf>> arrays = new ArrayList<>(Collections.nCopies(16, null));
    private int everMade = 0;

    public int make(int n, int v) {
        refuseArgument(n < 0 || n > 4096);
        int[] values = new int[n];
        Arrays.fill(values, v);
        return add(List.of(), values);
    }

    public int copy(int a) {
        return add(there(a), new int[0]);
    }

    public int slice(int a, int from, int to) {
        int[] part = range(a, from, to);
        List<Leaf> shared = new ArrayList<>();
        if (from % 16 == 0) {
            for (int k = 0; 16 * (k + 1) <= part.length; k++) {
                shared.add(there(a).get(from / 16 + k));
            }
        }
        return add(shared, Arrays.copyOfRange(part, 16 * shared.size(), part.length));
    }

    public int join(int a, int b) {
        int[] left = values(there(a));
        int[] right = values(there(b));
        refuseArgument(left.length + right.length > 4096);
        List<Leaf> shared = new ArrayList<>(there(a));
        if (left.length % 16 == 0) {
            shared.addAll(there(b));
            return add(shared, new int[0]);
        }
        Leaf part = shared.remove(shared.size() - 1);
        int[] rest = Arrays.copyOf(part.values, part.values.length + right.length);
        System.arraycopy(right, 0, rest, part.values.length, right.length);
        return add(shared, rest);
    }

    public boolean release(int a) {
        return isThere(a) && arrays.set(a, null) != null;
    }

    public int get(int a, int i) {
        refuseArgument(i < 0 || i >= values(there(a)).length);
        return values(there(a))[i];
    }

    public void set(int a, int i, int v) {
        refuseArgument(i < 0 || i >= values(there(a)).length);
        fill(a, i, i + 1, v);
    }

    public void fill(int a, int from, int to, int v) {
        range(a, from, to);
        int[] values = values(there(a));
        Arrays.fill(values, from, to, v);
        change(a, values);
    }

    public void move(int a, int from, int to, int at) {
        int[] part = range(a, from, to);
        int[] values = values(there(a));
        refuseArgument(at < 0 || (long) at + part.length > values.length);
        System.arraycopy(part, 0, values, at, part.length);
        change(a, values);
    }

    public void sort(int a) {
        int[] values = values(there(a));
        Arrays.sort(values);
        change(a, values);
    }

    public void reverse(int a) {
        int[] before = values(there(a));
        int[] values = new int[before.length];
        for (int i = 0; i < values.length; i++) {
            values[values.length - 1 - i] = before[i];
        }
        change(a, values);
    }

    public int length(int a) {
        return isThere(a) ? there(a).stream().mapToInt(leaf -> leaf.values.length).sum() : -1;
    }

    public long sum(int a, int from, int to) {
        return Arrays.stream(range(a, from, to)).asLongStream().sum();
    }

    public int bound(int a, int from, int to, int what) {
        int[] part = range(a, from, to);
        refuseArgument(what != 0 && what != 1);
        return what == 0 ? Arrays.stream(part).min().orElse(Integer.MAX_VALUE)
            : Arrays.stream(part).max().orElse(Integer.MIN_VALUE);
    }

    public int find(int a, int from, int v) {
        int[] part = range(a, from, values(there(a)).length);
        for (int i = 0; i < part.length; i++) {
            if (part[i] == v) {
                return from + i;
            }
        }
        return -1;
    }

    public int difference(int a, int b) {
        return Arrays.mismatch(values(there(a)), values(there(b)));
    }

    public int used() {
        Set<Leaf> own = Collections.newSetFromMap(new IdentityHashMap<>());
        for (Leaf leaf : allLeaves()) {
            if (leaf.own) {
                own.add(leaf);
            }
        }
        return own.size();
    }

    public int made() {
        return everMade;
    }

    public int leaf(int a, int k) {
        Leaf leaf = leafOrNull(a, k);
        if (leaf == null) {
            return -1;
        }
        return !leaf.own ? 0 : isShared(leaf) ? 2 : 1;
    }

    public boolean alike(int a, int j, int b, int k) {
        Leaf leaf = leafOrNull(a, j);
        return leaf != null && leaf.own && leaf == leafOrNull(b, k);
    }

    private int add(List<Leaf> shared, int[] rest) {
        int number = arrays.indexOf(null);
        refuseState(number < 0);
        List<Leaf> leaves = new ArrayList<>(shared);
        for (int start = 0; start < rest.length; start += 16) {
            leaves.add(newLeaf(Arrays.copyOfRange(rest, start, Math.min(rest.length, start + 16))));
        }
        makeRoom(leaves);
        arrays.set(number, leaves);
        return number;
    }

    private void change(int a, int[] values) {
        List<Leaf> before = there(a);
        List<Leaf> after = new ArrayList<>();
        List<Leaf> itself = new ArrayList<>();
        for (int k = 0; k < before.size(); k++) {
            Leaf leaf = before.get(k);
            int[] part = Arrays.copyOfRange(values, 16 * k, Math.min(values.length, 16 * k + 16));
            boolean stays = Arrays.equals(part, leaf.values);
            boolean becomesItself = !stays && !isOneNumber(part) && leaf.own && !isShared(leaf);
            after.add(stays || becomesItself ? leaf : newLeaf(part));
            itself.add(becomesItself ? new Leaf(true, part) : null);
        }
        makeRoom(after);
        for (int k = 0; k < before.size(); k++) {
            if (itself.get(k) != null) {
                after.get(k).values = itself.get(k).values;
            }
        }
        arrays.set(a, after);
    }

    private void makeRoom(List<Leaf> leaves) {
        Set<Leaf> fresh = Collections.newSetFromMap(new IdentityHashMap<>());
        fresh.addAll(leaves);
        fresh.removeAll(allLeaves());
        fresh.removeIf(leaf -> !leaf.own);
        refuseState(fresh.size() > 512 - used());
        everMade += fresh.size();
    }

    private static Leaf newLeaf(int[] values) {
        return new Leaf(!isOneNumber(values), values);
    }

    private static boolean isOneNumber(int[] values) {
        return Arrays.stream(values).distinct().count() == 1;
    }

    private boolean isShared(Leaf leaf) {
        return allLeaves().stream().filter(other -> other == leaf).count() > 1;
    }

    private List<Leaf> allLeaves() {
        List<Leaf> all = new ArrayList<>();
        for (List<Leaf> leaves : arrays) {
            if (leaves != null) {
                all.addAll(leaves);
            }
        }
        return all;
    }

    private Leaf leafOrNull(int a, int k) {
        return isThere(a) && k >= 0 && k < there(a).size() ? there(a).get(k) : null;
    }

    private boolean isThere(int a) {
        return a >= 0 && a < 16 && arrays.get(a) != null;
    }

    private List<Leaf> there(int a) {
        refuseArgument(!isThere(a));
        return arrays.get(a);
    }

    private int[] range(int a, int from, int to) {
        int[] values = values(there(a));
        refuseArgument(!(0 <= from && from <= to && to <= values.length));
        return Arrays.copyOfRange(values, from, to);
    }

    private static int[] values(List<Leaf> leaves) {
        return leaves.stream().flatMapToInt(leaf -> Arrays.stream(leaf.values)).toArray();
    }

    private static void refuseArgument(boolean wrong) {
        if (wrong) {
            throw new IllegalArgumentException();
        }
    }

    private static void refuseState(boolean wrong) {
        if (wrong) {
            throw new IllegalStateException();
        }
    }
}
