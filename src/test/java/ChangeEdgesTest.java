import java.util.Arrays;

/** The boundaries of promises 8 to 12, a test for each sentence that names one. */
public final class ChangeEdgesTest {
    private static final Checks CHECKS = new Checks();
    private static final Edges EDGES = new Edges(CHECKS);
    private static final int LEAST_INT = Edges.LEAST_INT;
    private static final int GREATEST_INT = Edges.GREATEST_INT;

    public static void main(String[] args) {
        set();
        fill();
        move();
        sort();
        reverse();
        CHECKS.end();
    }

    private static void set() {
        CHECKS.sentence("8: there is no such array", () -> EDGES.noSuchArray("set", (x, a) -> x.set(a, 0, 5)));
        CHECKS.sentence("8: there is no such index: below", () -> setRefuses(0, -1, -16, LEAST_INT));
        CHECKS.sentence("8: there is no such index: above", () -> setRefuses(0, 20, 21, 31, 32, 4096, GREATEST_INT));
        CHECKS.sentence("8: there is no such index: no values", () -> setRefuses(2, 0, -1, 1));
        CHECKS.sentence("8: there is no such index: 4096", ChangeEdgesTest::setAt4096);
        CHECKS.sentence("8: value i: the first and the last", ChangeEdgesTest::setFirstAndLast);
        CHECKS.sentence("8: value i: beside the end of a leaf", ChangeEdgesTest::setBesideTheEndOfALeaf);
        CHECKS.sentence("8: becomes v: the least and the greatest int", ChangeEdgesTest::setLeastAndGreatestInt);
        CHECKS.sentence("8: becomes v: what it is", ChangeEdgesTest::setToWhatItIs);
    }

    private static void fill() {
        Edges.OnRange fill = (x, from, to) -> x.fill(0, from, to, 5);
        CHECKS.sentence("9: there is no such array", () -> EDGES.noSuchArray("fill", (x, a) -> x.fill(a, 0, 0, 5)));
        CHECKS.sentence("9: not 0 <= from", () -> EDGES.fromBelow0("fill", fill));
        CHECKS.sentence("9: not from <= to", () -> EDGES.fromAboveTo("fill", fill));
        CHECKS.sentence("9: not to <= its length", () -> EDGES.toBeyondTheLength("fill", fill));
        CHECKS.sentence("9: not to <= its length: 4097", ChangeEdgesTest::fillBeyond4096);
        CHECKS.sentence("9: not to <= its length: no values", ChangeEdgesTest::fillOfNoValues);
        CHECKS.sentence("9: values from .. to - 1: none", () -> EDGES.emptyRanges(ChangeEdgesTest::fillOfNone));
        CHECKS.sentence("9: values from .. to - 1: no others", ChangeEdgesTest::fillReachesNoOthers);
        CHECKS.sentence("9: values from .. to - 1: all of 4096", ChangeEdgesTest::fillOf4096);
        CHECKS.sentence("9: become v: the least and the greatest int", ChangeEdgesTest::fillLeastAndGreatestInt);
    }

    private static void move() {
        Edges.OnRange move = (x, from, to) -> x.move(0, from, to, 0);
        CHECKS.sentence("10: there is no such array", () -> EDGES.noSuchArray("move", (x, a) -> x.move(a, 0, 0, 0)));
        CHECKS.sentence("10: not 0 <= from", () -> EDGES.fromBelow0("move", move));
        CHECKS.sentence("10: not from <= to", () -> EDGES.fromAboveTo("move", move));
        CHECKS.sentence("10: not to <= its length", () -> EDGES.toBeyondTheLength("move", move));
        CHECKS.sentence("10: it would go beyond the length", () -> moveRefuses(0, 4, 17, 18, 20, 4096));
        CHECKS.sentence("10: it would go beyond the length: all", () -> moveRefuses(0, 20, 1, 19, 20));
        CHECKS.sentence("10: it would go beyond the length: beyond an int", ChangeEdgesTest::moveBeyondAnInt);
        CHECKS.sentence("10: it would go beyond the length: 4096", ChangeEdgesTest::moveBeyond4096);
        CHECKS.sentence("10: it would go beyond the length: none", () -> moveRefuses(3, 3, 21, 32, GREATEST_INT));
        CHECKS.sentence("10: at is below 0", () -> moveRefuses(0, 4, -1, -4, LEAST_INT));
        CHECKS.sentence("10: at is below 0: none", () -> moveRefuses(3, 3, -1, LEAST_INT));
        CHECKS.sentence("10: at is below 0: no values", ChangeEdgesTest::moveOfNoValues);
        CHECKS.sentence("10: values from at on: the first and the last", ChangeEdgesTest::moveToFirstAndLast);
        CHECKS.sentence("10: values from .. to - 1: none", () -> EDGES.emptyRanges(ChangeEdgesTest::moveOfNone));
        CHECKS.sentence("10: values from at on: no others", ChangeEdgesTest::moveReachesNoOthers);
        CHECKS.sentence("10: what the values were: up", () -> moveOverlapping(1, 15, 16, 17));
        CHECKS.sentence("10: what the values were: down", () -> moveOverlapping(-1, -15, -16, -17));
        CHECKS.sentence("10: what the values were: where they are", ChangeEdgesTest::moveToWhereTheyAre);
        CHECKS.sentence("10: what the values were: 4095 of 4096", ChangeEdgesTest::moveOf4095);
    }

    private static void sort() {
        CHECKS.sentence("11: refused: no such array", () -> EDGES.noSuchArray("sort", SharedLeaves::sort));
        CHECKS.sentence("11: the values: none", () -> sortOf());
        CHECKS.sentence("11: the values: one", () -> sortOf(3));
        CHECKS.sentence("11: the values: the least and the greatest int", ChangeEdgesTest::sortLeastAndGreatestInt);
        CHECKS.sentence("11: the values: alike", () -> sortOf(2, 1, 2, 1, 2, 1, 1, 1, 2, 2, 1, 1, 2, 1, 2, 2, 1, 2));
        CHECKS.sentence("11: rising order: a leaf less one", () -> sortOf(falling(15)));
        CHECKS.sentence("11: rising order: a leaf", () -> sortOf(falling(16)));
        CHECKS.sentence("11: rising order: a leaf and one", () -> sortOf(falling(17)));
        CHECKS.sentence("11: rising order: 4096 values", ChangeEdgesTest::sortOf4096);
        CHECKS.sentence("11: rising order: in it before", ChangeEdgesTest::sortOfRising);
    }

    private static void reverse() {
        CHECKS.sentence("12: refused: no such array", () -> EDGES.noSuchArray("reverse", SharedLeaves::reverse));
        CHECKS.sentence("12: the values: none", () -> reverseOf(0));
        CHECKS.sentence("12: the values: one", () -> reverseOf(1));
        CHECKS.sentence("12: the other way round: a leaf less one", () -> reverseOf(15));
        CHECKS.sentence("12: the other way round: a leaf", () -> reverseOf(16));
        CHECKS.sentence("12: the other way round: a leaf and one", () -> reverseOf(17));
        CHECKS.sentence("12: the other way round: 4096 values", ChangeEdgesTest::reverseOf4096);
        CHECKS.sentence("12: the other way round: the same", ChangeEdgesTest::reverseOfTheSame);
        CHECKS.sentence("12: the values: the least and the greatest int", ChangeEdgesTest::reverseLeastAndGreatestInt);
    }

    private static void setRefuses(int a, int... indexes) {
        SharedLeaves x = Edges.twoThere();
        EDGES.asBefore("set refused", x, () -> {
            for (int i : indexes) {
                CHECKS.argumentRefused("set(" + a + ", " + i + ", 5)", () -> x.set(a, i, 5));
            }
        });
    }

    private static void setAt4096() {
        SharedLeaves x = Samples.halfFull();
        EDGES.asBefore("set refused", x, () -> CHECKS.argumentRefused("set(0, 4096, 5)", () -> x.set(0, 4096, 5)));
        x.set(0, 4095, 5);
        CHECKS.due("get(0, 4095)", x.get(0, 4095), 5);
    }

    private static void setFirstAndLast() {
        SharedLeaves x = Edges.twoThere();
        x.set(0, 0, 100);
        x.set(0, 19, 119);
        CHECKS.due("get(0, 0)", x.get(0, 0), 100);
        CHECKS.due("get(0, 19)", x.get(0, 19), 119);
        CHECKS.due("the sum of the others", x.sum(0, 1, 19), 171);
    }

    private static void setBesideTheEndOfALeaf() {
        for (int i : new int[] {15, 16, 31, 32}) {
            SharedLeaves x = new SharedLeaves();
            x.make(48, 0);
            x.set(0, i, 7);
            for (int k = 0; k < 3; k++) {
                CHECKS.due("set(0, " + i + ", 7): leaf(0, " + k + ")", x.leaf(0, k), k == i / 16 ? 1 : 0);
            }
            CHECKS.due("set(0, " + i + ", 7): find", x.find(0, 0, 7), i);
            CHECKS.due("set(0, " + i + ", 7): sum", x.sum(0, 0, 48), 7);
        }
    }

    private static void setLeastAndGreatestInt() {
        SharedLeaves x = Edges.twoThere();
        x.set(0, 0, LEAST_INT);
        x.set(0, 1, GREATEST_INT);
        CHECKS.due("get(0, 0)", x.get(0, 0), LEAST_INT);
        CHECKS.due("get(0, 1)", x.get(0, 1), GREATEST_INT);
        x.make(1, 0);
        x.set(1, 0, LEAST_INT);
        CHECKS.due("get(1, 0)", x.get(1, 0), LEAST_INT);
    }

    private static void setToWhatItIs() {
        SharedLeaves x = Edges.twoThere();
        x.copy(0);
        EDGES.asBefore("set of the same", x, () -> {
            x.set(0, 0, 0);
            x.set(1, 19, 19);
        });
        CHECKS.due("alike(0, 0, 1, 0)", x.alike(0, 0, 1, 0), true);
        CHECKS.due("alike(0, 1, 1, 1)", x.alike(0, 1, 1, 1), true);
    }

    private static void fillBeyond4096() {
        SharedLeaves x = Samples.halfFull();
        EDGES.asBefore("fill refused", x, () -> {
            CHECKS.argumentRefused("fill(0, 0, 4097, 5)", () -> x.fill(0, 0, 4097, 5));
            CHECKS.argumentRefused("fill(0, 4096, 4097, 5)", () -> x.fill(0, 4096, 4097, 5));
        });
        EDGES.asBefore("fill of none", x, () -> x.fill(0, 4096, 4096, 5));
    }

    private static void fillOfNoValues() {
        SharedLeaves x = Edges.twoThere();
        EDGES.asBefore("fill refused", x, () -> {
            CHECKS.argumentRefused("fill(2, 0, 1, 5)", () -> x.fill(2, 0, 1, 5));
            CHECKS.argumentRefused("fill(2, 1, 1, 5)", () -> x.fill(2, 1, 1, 5));
            x.fill(2, 0, 0, 5);
        });
    }

    private static void fillOfNone(SharedLeaves x, int from, int to) {
        x.copy(0);
        EDGES.asBefore("fill(0, " + from + ", " + to + ", 5)", x, () -> x.fill(0, from, to, 5));
    }

    private static void fillReachesNoOthers() {
        int[][] ranges = {{0, 1}, {0, 20}, {19, 20}, {15, 16}, {15, 17}, {16, 17}, {1, 19}, {16, 20}, {0, 16}};
        for (int[] range : ranges) {
            SharedLeaves x = Edges.twoThere();
            Samples.workOnOthers(x);
            x.fill(0, range[0], range[1], -9);
            for (int i = 0; i < Edges.LENGTH; i++) {
                int want = i >= range[0] && i < range[1] ? -9 : i;
                CHECKS.due("fill(0, " + range[0] + ", " + range[1] + ", -9): get(0, " + i + ")", x.get(0, i), want);
            }
        }
    }

    private static void fillOf4096() {
        SharedLeaves x = Samples.halfFull();
        x.fill(0, 0, 4096, 5);
        CHECKS.due("sum", x.sum(0, 0, 4096), 20480);
        CHECKS.due("used()", x.used(), 0);
        CHECKS.due("leaf(0, 255)", x.leaf(0, 255), 0);
        CHECKS.due("made()", x.made(), 256);
    }

    private static void fillLeastAndGreatestInt() {
        SharedLeaves x = Edges.twoThere();
        x.fill(0, 0, 3, LEAST_INT);
        x.fill(0, 3, 20, GREATEST_INT);
        CHECKS.due("get(0, 2)", x.get(0, 2), LEAST_INT);
        CHECKS.due("get(0, 3)", x.get(0, 3), GREATEST_INT);
        CHECKS.due("get(0, 19)", x.get(0, 19), GREATEST_INT);
        CHECKS.due("leaf(0, 0)", x.leaf(0, 0), 1);
        CHECKS.due("leaf(0, 1)", x.leaf(0, 1), 0);
    }

    private static void moveRefuses(int from, int to, int... targets) {
        SharedLeaves x = Edges.twoThere();
        EDGES.asBefore("move refused", x, () -> {
            for (int at : targets) {
                String call = "move(0, " + from + ", " + to + ", " + at + ")";
                CHECKS.argumentRefused(call, () -> x.move(0, from, to, at));
            }
        });
    }

    /** The end, at + to - from, is below 0 as an int. */
    private static void moveBeyondAnInt() {
        moveRefuses(0, 4, GREATEST_INT, GREATEST_INT - 3);
        moveRefuses(0, 20, GREATEST_INT, GREATEST_INT - 18);
        moveRefuses(19, 20, GREATEST_INT);
    }

    private static void moveBeyond4096() {
        SharedLeaves x = Samples.halfFull();
        EDGES.asBefore("move refused", x, () -> {
            CHECKS.argumentRefused("move(0, 0, 4096, 1)", () -> x.move(0, 0, 4096, 1));
            CHECKS.argumentRefused("move(0, 0, 1, 4096)", () -> x.move(0, 0, 1, 4096));
            CHECKS.argumentRefused("move(0, 4096, 4096, 4097)", () -> x.move(0, 4096, 4096, 4097));
        });
        EDGES.asBefore("move of none", x, () -> x.move(0, 4096, 4096, 4096));
    }

    private static void moveOfNoValues() {
        SharedLeaves x = Edges.twoThere();
        EDGES.asBefore("move of no values", x, () -> {
            CHECKS.argumentRefused("move(2, 0, 0, -1)", () -> x.move(2, 0, 0, -1));
            CHECKS.argumentRefused("move(2, 0, 0, 1)", () -> x.move(2, 0, 0, 1));
            CHECKS.argumentRefused("move(2, 0, 1, 0)", () -> x.move(2, 0, 1, 0));
            x.move(2, 0, 0, 0);
        });
    }

    private static void moveToFirstAndLast() {
        SharedLeaves x = Edges.twoThere();
        x.move(0, 8, 12, 0);
        CHECKS.due("get(0, 0)", x.get(0, 0), 8);
        CHECKS.due("get(0, 3)", x.get(0, 3), 11);
        CHECKS.due("get(0, 4)", x.get(0, 4), 4);
        x.move(0, 8, 12, 16);
        CHECKS.due("get(0, 15)", x.get(0, 15), 15);
        CHECKS.due("get(0, 16)", x.get(0, 16), 8);
        CHECKS.due("get(0, 19)", x.get(0, 19), 11);
        x.move(0, 19, 20, 0);
        CHECKS.due("get(0, 0), from the last", x.get(0, 0), 11);
        x.move(0, 0, 1, 19);
        CHECKS.due("get(0, 19), from the first", x.get(0, 19), 11);
    }

    private static void moveOfNone(SharedLeaves x, int from, int to) {
        x.copy(0);
        EDGES.asBefore("move(0, " + from + ", " + to + ", ..)", x, () -> {
            x.move(0, from, to, 0);
            x.move(0, from, to, 16);
            x.move(0, from, to, 20);
        });
    }

    private static void moveReachesNoOthers() {
        for (int at : new int[] {0, 1, 12, 14, 15, 16}) {
            SharedLeaves x = Edges.twoThere();
            Samples.workOnOthers(x);
            x.move(0, 5, 9, at);
            for (int i = 0; i < Edges.LENGTH; i++) {
                int want = i >= at && i < at + 4 ? 5 + i - at : i;
                CHECKS.due("move(0, 5, 9, " + at + "): get(0, " + i + ")", x.get(0, i), want);
            }
        }
    }

    private static void moveOverlapping(int... ways) {
        for (int way : ways) {
            SharedLeaves x = Samples.counting(64);
            int from = Math.max(0, -way);
            int to = Math.min(64, 64 - way);
            x.move(0, from, to, from + way);
            for (int i = 0; i < 64; i++) {
                int want = i >= from + way && i < to + way ? i - way : i;
                CHECKS.due("moved by " + way + ": get(0, " + i + ")", x.get(0, i), want);
            }
        }
    }

    private static void moveToWhereTheyAre() {
        SharedLeaves x = Edges.twoThere();
        x.copy(0);
        EDGES.asBefore("move to where they are", x, () -> {
            x.move(0, 0, 20, 0);
            x.move(1, 5, 18, 5);
        });
        CHECKS.due("alike(0, 1, 1, 1)", x.alike(0, 1, 1, 1), true);
    }

    private static void moveOf4095() {
        SharedLeaves x = Samples.halfFull();
        x.move(0, 0, 4095, 1);
        CHECKS.due("get(0, 0)", x.get(0, 0), 1);
        CHECKS.due("get(0, 1)", x.get(0, 1), 1);
        CHECKS.due("get(0, 4080)", x.get(0, 4080), 0);
        CHECKS.due("get(0, 4081)", x.get(0, 4081), 1);
        x.move(0, 1, 4096, 0);
        CHECKS.due("get(0, 0), moved back", x.get(0, 0), 1);
        CHECKS.due("get(0, 1), moved back", x.get(0, 1), 0);
        CHECKS.due("get(0, 4080), moved back", x.get(0, 4080), 1);
        CHECKS.due("sum", x.sum(0, 0, 4096), 256);
        CHECKS.due("made()", x.made(), 256);
    }

    private static int[] falling(int n) {
        int[] values = new int[n];
        for (int i = 0; i < n; i++) {
            values[i] = n - i;
        }
        return values;
    }

    private static SharedLeaves with(int... values) {
        SharedLeaves x = new SharedLeaves();
        x.make(values.length, 0);
        for (int i = 0; i < values.length; i++) {
            x.set(0, i, values[i]);
        }
        return x;
    }

    private static void sortOf(int... values) {
        SharedLeaves x = with(values);
        x.copy(0);
        x.sort(1);
        int[] rising = values.clone();
        Arrays.sort(rising);
        CHECKS.due("length(1)", x.length(1), values.length);
        for (int i = 0; i < values.length; i++) {
            CHECKS.due("get(1, " + i + ")", x.get(1, i), rising[i]);
            CHECKS.due("get(0, " + i + ")", x.get(0, i), values[i]);
        }
    }

    private static void sortLeastAndGreatestInt() {
        sortOf(0, GREATEST_INT, LEAST_INT, -1, 1, GREATEST_INT, LEAST_INT, GREATEST_INT - 1, LEAST_INT + 1);
        sortOf(GREATEST_INT, LEAST_INT);
        sortOf(LEAST_INT, GREATEST_INT);
    }

    private static void sortOf4096() {
        SharedLeaves x = new SharedLeaves();
        x.make(4096, 0);
        for (int k = 0; k < 256; k++) {
            x.fill(0, 16 * k, 16 * k + 16, 1000 - k);
        }
        x.sort(0);
        for (int k = 0; k < 256; k += 3) {
            CHECKS.due("get(0, " + 16 * k + ")", x.get(0, 16 * k), 745 + k);
            CHECKS.due("get(0, " + (16 * k + 15) + ")", x.get(0, 16 * k + 15), 745 + k);
        }
        CHECKS.due("made()", x.made(), 0);
    }

    private static void sortOfRising() {
        SharedLeaves x = Edges.twoThere();
        x.copy(0);
        EDGES.asBefore("sort of rising", x, () -> x.sort(0));
        CHECKS.due("alike(0, 0, 1, 0)", x.alike(0, 0, 1, 0), true);
        CHECKS.due("alike(0, 1, 1, 1)", x.alike(0, 1, 1, 1), true);
    }

    private static void reverseOf(int n) {
        SharedLeaves x = with(falling(n));
        x.copy(0);
        x.reverse(1);
        CHECKS.due("length(1)", x.length(1), n);
        for (int i = 0; i < n; i++) {
            CHECKS.due("get(1, " + i + ")", x.get(1, i), i + 1);
            CHECKS.due("get(0, " + i + ")", x.get(0, i), n - i);
        }
    }

    private static void reverseOf4096() {
        SharedLeaves x = Samples.halfFull();
        x.set(0, 0, 2);
        x.reverse(0);
        CHECKS.due("get(0, 4095)", x.get(0, 4095), 2);
        CHECKS.due("get(0, 4079)", x.get(0, 4079), 1);
        CHECKS.due("get(0, 15)", x.get(0, 15), 1);
        CHECKS.due("get(0, 0)", x.get(0, 0), 0);
        CHECKS.due("sum", x.sum(0, 0, 4096), 257);
        CHECKS.due("made()", x.made(), 256);
    }

    private static void reverseOfTheSame() {
        SharedLeaves x = with(1, 2, 3, 4, 5, 6, 7, 8, 9, 9, 8, 7, 6, 5, 4, 3, 2, 1);
        x.copy(0);
        EDGES.asBefore("reverse of the same", x, () -> x.reverse(0));
        CHECKS.due("alike(0, 0, 1, 0)", x.alike(0, 0, 1, 0), true);
        CHECKS.due("alike(0, 1, 1, 1)", x.alike(0, 1, 1, 1), true);
    }

    private static void reverseLeastAndGreatestInt() {
        SharedLeaves x = with(LEAST_INT, 0, GREATEST_INT);
        x.reverse(0);
        CHECKS.due("get(0, 0)", x.get(0, 0), GREATEST_INT);
        CHECKS.due("get(0, 2)", x.get(0, 2), LEAST_INT);
    }
}
