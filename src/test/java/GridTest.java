/** Every call with every mix of numbers at and beyond the document's boundaries, answered as Model answers it. */
public final class GridTest {
    private static final int LEAST_INT = Integer.MIN_VALUE;
    private static final int GREATEST_INT = Integer.MAX_VALUE;

    /** Array 0 has 20 values, 1 is not there, 2 has none, 15 has 4096; 16 begins a leaf and is no array. */
    private static final int[] NUMBERS = {LEAST_INT, -1, 0, 1, 2, 15, 16, 17, 19, 20, 21, 4096, 4097, GREATEST_INT};

    private static final String[] METHODS = {"make", "copy", "slice", "join", "release", "get", "set", "fill", "move",
        "sort", "reverse", "length", "sum", "bound", "find", "difference", "used", "made", "leaf", "alike"};
    private static final int[] PARAMETERS = {2, 1, 3, 2, 1, 2, 3, 4, 4, 1, 1, 1, 3, 4, 3, 2, 0, 0, 2, 4};

    /** The first methods make an array: its number, 1, is freed before each call. */
    private static final int MAKING = 4;

    /** So many calls end asks of an object. */
    private static final int AT_THE_END = 4;

    private final Checks checks = new Checks();

    public static void main(String[] args) {
        GridTest test = new GridTest();
        for (int m = 0; m < METHODS.length; m++) {
            test.grid(METHODS[m], PARAMETERS[m], m < MAKING);
        }
        test.checks.end();
    }

    private void grid(String method, int parameters, boolean making) {
        int mixes = 1;
        for (int p = 0; p < parameters; p++) {
            mixes *= NUMBERS.length;
        }
        Pair pair = begin(method);
        // What follows a wrong answer tells nothing.
        for (int mix = 0; mix < mixes && pair.isAlike(); mix++) {
            if (!pair.hasCallsLeft(2 + AT_THE_END)) {
                end(pair);
                pair = begin(method);
            }
            if (making) {
                pair.ask("release", 1);
            }
            pair.ask(method, arguments(mix, parameters));
        }
        end(pair);
    }

    private static int[] arguments(int mix, int parameters) {
        int[] arguments = new int[parameters];
        int rest = mix;
        for (int p = parameters - 1; p >= 0; p--) {
            arguments[p] = NUMBERS[rest % NUMBERS.length];
            rest /= NUMBERS.length;
        }
        return arguments;
    }

    private Pair begin(String method) {
        Pair pair = new Pair(checks, "grid of " + method);
        pair.ask("make", 20, 0);
        for (int i = 1; i < 20; i++) {
            pair.ask("set", 0, i, i);
        }
        for (int a = 1; a <= 14; a++) {
            pair.ask("make", 0, 0);
        }
        pair.ask("make", 4096, 7);
        pair.ask("release", 1);
        return pair;
    }

    private static void end(Pair pair) {
        pair.ask("used");
        pair.ask("made");
        pair.ask("difference", 0, 15);
        pair.ask("find", 15, 0, 0);
    }
}
