/** The boundaries that many promises share: arrays that aren't there, and ranges that an array doesn't have. */
final class Edges {
    static final int LEAST_INT = Integer.MIN_VALUE;
    static final int GREATEST_INT = Integer.MAX_VALUE;

    /** Sixteen times this is 0 as an int. */
    static final int WRAPPING_LEAF = 1 << 28;

    /** The numbers of arrays in twoThere that aren't there, and numbers that no array has. */
    static final int[] NOT_THERE = {1, 3, 15, -1, 16, LEAST_INT, GREATEST_INT};

    /** The length of array 0 in twoThere; the ranges below are of an array this long. */
    static final int LENGTH = 20;

    private static final int[][] BELOW_0 = {{-1, 0}, {-1, -1}, {-1, 20}, {-16, 3}, {LEAST_INT, 3}, {LEAST_INT, LEAST_INT},
        {LEAST_INT, GREATEST_INT}};
    private static final int[][] TURNED = {{1, 0}, {20, 19}, {16, 15}, {3, -1}, {3, LEAST_INT}, {GREATEST_INT, 3},
        {GREATEST_INT, LEAST_INT}, {21, 20}};
    private static final int[][] BEYOND = {{0, 21}, {20, 21}, {21, 21}, {16, 32}, {3, GREATEST_INT},
        {GREATEST_INT, GREATEST_INT}, {0, 4097}};
    private static final int[][] EMPTY = {{0, 0}, {1, 1}, {15, 15}, {16, 16}, {19, 19}, {20, 20}};

    interface OnArray {
        void call(SharedLeaves x, int a);
    }

    interface OnRange {
        void call(SharedLeaves x, int from, int to);
    }

    private final Checks checks;

    Edges(Checks checks) {
        this.checks = checks;
    }

    /** Array 0 with 20 values 0, 1, 2, .. and array 2 with none; array 1 was there. */
    static SharedLeaves twoThere() {
        SharedLeaves x = Samples.counting(LENGTH);
        x.copy(0);
        x.make(0, 0);
        x.release(1);
        return x;
    }

    void noSuchArray(String name, OnArray call) {
        SharedLeaves x = twoThere();
        String before = Snapshot.of(x);
        for (int a : NOT_THERE) {
            checks.argumentRefused(name + " of " + a, () -> call.call(x, a));
        }
        checks.due(name + " of no array: what there is", Snapshot.of(x), before);
    }

    void fromBelow0(String name, OnRange call) {
        rangesRefused(name, BELOW_0, call);
    }

    void fromAboveTo(String name, OnRange call) {
        rangesRefused(name, TURNED, call);
    }

    void toBeyondTheLength(String name, OnRange call) {
        rangesRefused(name, BEYOND, call);
    }

    void emptyRanges(OnRange test) {
        for (int[] range : EMPTY) {
            test.call(twoThere(), range[0], range[1]);
        }
    }

    void asBefore(String call, SharedLeaves x, Runnable run) {
        String before = Snapshot.of(x);
        run.run();
        checks.due(call + ": what there is", Snapshot.of(x), before);
    }

    private void rangesRefused(String name, int[][] ranges, OnRange call) {
        SharedLeaves x = twoThere();
        String before = Snapshot.of(x);
        for (int[] range : ranges) {
            String written = name + " of " + range[0] + " .. " + range[1];
            checks.argumentRefused(written, () -> call.call(x, range[0], range[1]));
        }
        checks.due(name + " of no range: what there is", Snapshot.of(x), before);
    }
}
