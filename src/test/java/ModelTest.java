import java.util.Random;
import java.util.Set;
import java.util.TreeSet;

/** Long runs of calls of all kinds, always the same ones, answered as Model answers them. */
public final class ModelTest {
    private static final int RUNS = 240;

    private static final String[] WRITES = {"make", "copy", "slice", "join", "release", "set", "fill", "move",
        "sort", "reverse", "slice", "join", "set", "fill", "move", "set"};
    private static final String[] READS = {"get", "length", "sum", "bound", "find", "difference", "used", "made",
        "leaf", "alike", "used", "made", "leaf", "alike", "difference"};

    private static final String NEED_ROOM = "[fill, join, move, reverse, set, slice, sort]";

    private final Checks checks = new Checks();
    private final Random random = new Random(20261115L);
    private final Set<String> refusedForRoom = new TreeSet<>();
    private int mostValues;
    private Pair pair;

    public static void main(String[] args) {
        ModelTest test = new ModelTest();
        int[] sizes = {40, 130, 1100, 4096};
        for (int run = 0; run < RUNS; run++) {
            test.mostValues = sizes[run % sizes.length];
            test.run("run " + run, run % 3 == 0);
        }
        test.checks.due("all runs: which were refused for no room", test.refusedForRoom.toString(), NEED_ROOM);
        test.checks.end();
    }

    private void run(String name, boolean crowded) {
        pair = new Pair(checks, name);
        if (crowded) {
            takeMostPlaces();
        }
        // What follows a wrong answer tells nothing.
        while (pair.isAlike() && pair.hasCallsLeft(1)) {
            String[] names = random.nextInt(5) < 2 ? WRITES : READS;
            askSome(names[random.nextInt(names.length)]);
        }
    }

    private void askSome(String method) {
        boolean allThere = areAllThere();
        String answer = pair.ask(method, arguments(method));
        boolean refused = answer.equals(IllegalStateException.class.getName());
        // With all arrays there, slice and join are refused for that.
        if (refused && !allThere) {
            refusedForRoom.add(method);
        }
    }

    private boolean areAllThere() {
        for (int a = 0; a < 16; a++) {
            if (pair.lengthInModel(a) < 0) {
                return false;
            }
        }
        return true;
    }

    /** One place is left free: calls like those that follow seldom take so many. */
    private void takeMostPlaces() {
        pair.ask("make", 4096, 0);
        pair.ask("set", 0, 0, 1);
        for (int width = 16; width < 4096; width *= 2) {
            pair.ask("move", 0, 0, width, width);
        }
        pair.ask("slice", 0, 1, 4096);
    }

    private int[] arguments(String method) {
        int a = array();
        int b = array();
        int from = index(a);
        int to = random.nextInt(20) == 0 ? index(a) : from + Math.max(0, index(a) - Math.max(0, from));
        switch (method) {
            case "make": return new int[] {multiple(mostValues), value()};
            case "join": case "difference": return new int[] {a, b};
            case "get": return new int[] {a, from};
            case "slice": case "sum": return new int[] {a, from, to};
            case "set": case "find": return new int[] {a, from, value()};
            case "fill": return new int[] {a, from, to, value()};
            case "move": return new int[] {a, from, to, target(a, to - from)};
            case "bound": return new int[] {a, from, to, random.nextInt(30) == 0 ? 2 : random.nextInt(2)};
            case "leaf": return new int[] {a, index(a) / 16};
            case "alike": return new int[] {a, index(a) / 16, b, index(b) / 16};
            case "used": case "made": return new int[0];
            default: return new int[] {a};
        }
    }

    /** Mostly the number of an array that is there. */
    private int array() {
        int a = random.nextInt(20) == 0 ? random.nextInt(18) - 1 : random.nextInt(16);
        for (int tries = 0; tries < 12 && pair.lengthInModel(a) < 0; tries++) {
            a = random.nextInt(16);
        }
        return a;
    }

    private int index(int a) {
        return multiple(Math.max(0, pair.lengthInModel(a)));
    }

    private int target(int a, int count) {
        // A range with an end far outside has no count to go by.
        int moved = count < 0 || count > 4096 ? 0 : count;
        return multiple(Math.max(0, pair.lengthInModel(a) - moved));
    }

    /** A number 0 .. most, often at or beside a multiple of 16 or most, seldom outside. */
    private int multiple(int most) {
        int some = random.nextInt(most + 1);
        switch (random.nextInt(12)) {
            case 0: return most;
            case 1: return 0;
            case 2: case 3: case 4: case 5: return some / 16 * 16;
            case 6: return Math.min(most, some / 16 * 16 + 1);
            case 7: return Math.max(0, some / 16 * 16 - 1);
            case 8: return random.nextInt(8) == 0 ? most + 1 : some;
            case 9: return random.nextInt(8) == 0 ? -1 : some;
            case 10: return random.nextInt(32) == 0 ? farOutside() : some;
            default: return some;
        }
    }

    private int farOutside() {
        int[] numbers = {Integer.MIN_VALUE, Integer.MAX_VALUE, Integer.MAX_VALUE - 1, 1 << 28, -16, 4097};
        return numbers[random.nextInt(numbers.length)];
    }

    private int value() {
        switch (random.nextInt(30)) {
            case 0: return Integer.MAX_VALUE;
            case 1: return Integer.MIN_VALUE;
            case 2: return random.nextInt();
            default: return random.nextInt(3);
        }
    }
}
