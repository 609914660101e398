/** Promises 7 and 14 to 21: what is told of arrays and leaves. */
public final class AnswersTest {
    private static final Checks CHECKS = new Checks();
    private static final int LEAST_INT = Integer.MIN_VALUE;
    private static final int GREATEST_INT = Integer.MAX_VALUE;

    public static void main(String[] args) {
        getTellsEachValue();
        sumIsALong();
        boundTellsLeastAndGreatest();
        boundOfNone();
        findTellsTheLeastIndex();
        differenceTellsTheLeastIndex();
        rangesAreRefused();
        usedAndMadeCountLeavesOnce();
        leafTellsItsKind();
        alikeIsOneOwnLeaf();
        CHECKS.end();
    }

    private static void getTellsEachValue() {
        SharedLeaves x = Samples.counting(50);
        x.fill(0, 16, 32, -4);
        for (int i = 0; i < 50; i++) {
            CHECKS.due("get(0, " + i + ")", x.get(0, i), i >= 16 && i < 32 ? -4 : i);
        }
        int[][] wrong = {{1, 0}, {-1, 0}, {16, 0}, {0, -1}, {0, 50}, {0, LEAST_INT}, {0, GREATEST_INT},
            {LEAST_INT, 0}, {GREATEST_INT, 0}};
        for (int[] w : wrong) {
            CHECKS.argumentRefused("get(" + w[0] + ", " + w[1] + ")", () -> x.get(w[0], w[1]));
        }
        x.make(0, 0);
        CHECKS.argumentRefused("get(1, 0) of no values", () -> x.get(1, 0));
    }

    private static void sumIsALong() {
        SharedLeaves x = new SharedLeaves();
        x.make(4096, GREATEST_INT);
        x.make(4096, LEAST_INT);
        CHECKS.due("sum of 4096 greatest", x.sum(0, 0, 4096), 4096L * GREATEST_INT);
        CHECKS.due("sum of 4096 least", x.sum(1, 0, 4096), 4096L * LEAST_INT);
        SharedLeaves y = Samples.counting(40);
        for (int from = 0; from <= 40; from++) {
            int to = Math.min(40, from + 19);
            CHECKS.due("sum(0, " + from + ", " + to + ")", y.sum(0, from, to), (to - from) * (from + to - 1L) / 2);
            CHECKS.due("sum(0, " + from + ", " + from + ")", y.sum(0, from, from), 0);
        }
    }

    private static void boundTellsLeastAndGreatest() {
        SharedLeaves x = Samples.counting(40);
        x.set(0, 20, -5);
        x.set(0, 21, 500);
        CHECKS.due("bound(0, 0, 40, 0)", x.bound(0, 0, 40, 0), -5);
        CHECKS.due("bound(0, 0, 40, 1)", x.bound(0, 0, 40, 1), 500);
        CHECKS.due("bound(0, 0, 20, 1)", x.bound(0, 0, 20, 1), 19);
        CHECKS.due("bound(0, 21, 40, 0)", x.bound(0, 21, 40, 0), 22);
        CHECKS.due("bound(0, 22, 40, 1)", x.bound(0, 22, 40, 1), 39);
        CHECKS.due("bound(0, 7, 8, 0)", x.bound(0, 7, 8, 0), 7);
        CHECKS.due("bound(0, 7, 8, 1)", x.bound(0, 7, 8, 1), 7);
        x.make(5, LEAST_INT);
        x.make(5, GREATEST_INT);
        CHECKS.due("bound of least, 1", x.bound(1, 0, 5, 1), LEAST_INT);
        CHECKS.due("bound of greatest, 0", x.bound(2, 0, 5, 0), GREATEST_INT);
        for (int what : new int[] {-1, 2, LEAST_INT, GREATEST_INT}) {
            CHECKS.argumentRefused("bound(0, 0, 40, " + what + ")", () -> x.bound(0, 0, 40, what));
            CHECKS.argumentRefused("bound(0, 3, 3, " + what + ")", () -> x.bound(0, 3, 3, what));
        }
    }

    private static void boundOfNone() {
        SharedLeaves x = Samples.counting(20);
        x.make(0, 3);
        for (int from : new int[] {0, 5, 16, 20}) {
            CHECKS.due("bound of none at " + from + ", 0", x.bound(0, from, from, 0), GREATEST_INT);
            CHECKS.due("bound of none at " + from + ", 1", x.bound(0, from, from, 1), LEAST_INT);
        }
        CHECKS.due("bound of no values, 0", x.bound(1, 0, 0, 0), GREATEST_INT);
        CHECKS.due("bound of no values, 1", x.bound(1, 0, 0, 1), LEAST_INT);
    }

    private static void findTellsTheLeastIndex() {
        SharedLeaves x = Samples.counting(40);
        x.set(0, 35, 3);
        CHECKS.due("find(0, 0, 3)", x.find(0, 0, 3), 3);
        CHECKS.due("find(0, 3, 3)", x.find(0, 3, 3), 3);
        CHECKS.due("find(0, 4, 3)", x.find(0, 4, 3), 35);
        CHECKS.due("find(0, 35, 3)", x.find(0, 35, 3), 35);
        CHECKS.due("find(0, 36, 3)", x.find(0, 36, 3), SharedLeaves.NONE);
        CHECKS.due("find(0, 0, 39)", x.find(0, 0, 39), 39);
        CHECKS.due("find(0, 0, 35)", x.find(0, 0, 35), SharedLeaves.NONE);
        CHECKS.due("find(0, 40, 3)", x.find(0, 40, 3), SharedLeaves.NONE);
        x.make(0, 3);
        CHECKS.due("find(1, 0, 3) of no values", x.find(1, 0, 3), SharedLeaves.NONE);
        x.make(4096, 3);
        CHECKS.due("find(2, 4095, 3)", x.find(2, 4095, 3), 4095);
        CHECKS.due("find(2, 4096, 3)", x.find(2, 4096, 3), SharedLeaves.NONE);
        int[][] wrong = {{3, 0}, {-1, 0}, {16, 0}, {0, -1}, {0, 41}, {1, 1}, {2, 4097}, {0, LEAST_INT}, {0, GREATEST_INT}};
        for (int[] w : wrong) {
            CHECKS.argumentRefused("find(" + w[0] + ", " + w[1] + ", 3)", () -> x.find(w[0], w[1], 3));
        }
    }

    private static void differenceTellsTheLeastIndex() {
        SharedLeaves x = Samples.counting(40);
        x.copy(0);
        CHECKS.due("difference of copies", x.difference(0, 1), SharedLeaves.NONE);
        CHECKS.due("difference(0, 0)", x.difference(0, 0), SharedLeaves.NONE);
        x.set(1, 39, 0);
        CHECKS.due("difference at the end", x.difference(0, 1), 39);
        x.set(1, 17, 0);
        x.set(1, 30, 0);
        CHECKS.due("difference at 17", x.difference(0, 1), 17);
        CHECKS.due("difference at 17, other order", x.difference(1, 0), 17);
        x.slice(0, 0, 23);
        CHECKS.due("difference with a shorter one", x.difference(0, 2), 23);
        CHECKS.due("difference of a shorter one", x.difference(2, 0), 23);
        x.make(0, 0);
        CHECKS.due("difference with none", x.difference(0, 3), 0);
        CHECKS.due("difference of none", x.difference(3, 0), 0);
        CHECKS.due("difference(3, 3)", x.difference(3, 3), SharedLeaves.NONE);
        x.make(4096, 1);
        x.make(4096, 2);
        CHECKS.due("difference of 4096", x.difference(4, 5), 0);
        CHECKS.due("difference of equal starts, others behind them", x.difference(3, 3), SharedLeaves.NONE);
        x.fill(5, 0, 4096, 1);
        CHECKS.due("difference of equal 4096", x.difference(4, 5), SharedLeaves.NONE);
        for (int a : new int[] {-1, 6, 16, LEAST_INT, GREATEST_INT}) {
            CHECKS.argumentRefused("difference(" + a + ", 0)", () -> x.difference(a, 0));
            CHECKS.argumentRefused("difference(0, " + a + ")", () -> x.difference(0, a));
        }
    }

    private static void rangesAreRefused() {
        SharedLeaves x = Samples.counting(20);
        int[][] wrong = {{1, 0, 0}, {-1, 0, 0}, {16, 0, 0}, {0, -1, 3}, {0, 0, 21}, {0, 4, 3}, {0, 21, 21},
            {0, LEAST_INT, 3}, {0, 3, LEAST_INT}, {0, 3, GREATEST_INT}, {0, GREATEST_INT, LEAST_INT}};
        for (int[] w : wrong) {
            String range = "(" + w[0] + ", " + w[1] + ", " + w[2];
            CHECKS.argumentRefused("sum" + range + ")", () -> x.sum(w[0], w[1], w[2]));
            CHECKS.argumentRefused("bound" + range + ", 0)", () -> x.bound(w[0], w[1], w[2], 0));
            CHECKS.argumentRefused("bound" + range + ", 1)", () -> x.bound(w[0], w[1], w[2], 1));
        }
    }

    private static void usedAndMadeCountLeavesOnce() {
        SharedLeaves x = Samples.counting(32);
        for (int copies = 0; copies < 10; copies++) {
            x.copy(0);
        }
        x.join(0, 0);
        CHECKS.due("used() of shared ones", x.used(), 2);
        CHECKS.due("made() of shared ones", x.made(), 2);
        x.set(11, 0, 9);
        CHECKS.due("used() with one more", x.used(), 3);
        x.fill(11, 0, 16, 9);
        CHECKS.due("used() with one fewer", x.used(), 2);
        CHECKS.due("made() never falls", x.made(), 3);
        x.set(11, 0, 8);
        CHECKS.due("used() anew", x.used(), 3);
        CHECKS.due("made() anew", x.made(), 4);
    }

    private static void leafTellsItsKind() {
        SharedLeaves x = Samples.counting(40);
        x.fill(0, 16, 32, 1);
        CHECKS.due("leaf OWN", x.leaf(0, 0), 1);
        CHECKS.due("leaf CONSTANT", x.leaf(0, 1), 0);
        CHECKS.due("leaf OWN, fewer than 16", x.leaf(0, 2), 1);
        x.copy(0);
        CHECKS.due("leaf SHARED", x.leaf(0, 0), 2);
        CHECKS.due("leaf CONSTANT in both", x.leaf(1, 1), 0);
        x.release(1);
        CHECKS.due("leaf OWN again", x.leaf(0, 0), 1);
        int[][] none = {{0, -1}, {0, 3}, {0, 256}, {1, 0}, {2, 0}, {-1, 0}, {16, 0}, {0, LEAST_INT}, {0, GREATEST_INT},
            {LEAST_INT, 0}, {GREATEST_INT, 0}};
        for (int[] n : none) {
            CHECKS.due("leaf(" + n[0] + ", " + n[1] + ")", x.leaf(n[0], n[1]), SharedLeaves.NONE);
        }
        x.make(0, 0);
        CHECKS.due("leaf(1, 0) of no values", x.leaf(1, 0), SharedLeaves.NONE);
    }

    private static void alikeIsOneOwnLeaf() {
        SharedLeaves x = Samples.counting(32);
        x.make(32, 1);
        x.copy(0);
        CHECKS.due("alike(0, 0, 2, 0)", x.alike(0, 0, 2, 0), true);
        CHECKS.due("alike(2, 1, 0, 1)", x.alike(2, 1, 0, 1), true);
        CHECKS.due("alike(0, 0, 0, 0), itself", x.alike(0, 0, 0, 0), true);
        CHECKS.due("alike(0, 0, 2, 1)", x.alike(0, 0, 2, 1), false);
        CHECKS.due("alike(1, 0, 1, 0), CONSTANT", x.alike(1, 0, 1, 0), false);
        CHECKS.due("alike(1, 0, 1, 1), CONSTANT", x.alike(1, 0, 1, 1), false);
        CHECKS.due("alike(0, 0, 1, 0), CONSTANT", x.alike(0, 0, 1, 0), false);
        int[] nothing = {-1, 2, 256, LEAST_INT, GREATEST_INT};
        for (int k : nothing) {
            CHECKS.due("alike(0, " + k + ", 0, " + k + ")", x.alike(0, k, 0, k), false);
            CHECKS.due("alike(0, 0, 2, " + k + ")", x.alike(0, 0, 2, k), false);
            CHECKS.due("alike(0, " + k + ", 2, 0)", x.alike(0, k, 2, 0), false);
        }
        for (int a : new int[] {-1, 3, 16, LEAST_INT, GREATEST_INT}) {
            CHECKS.due("alike(" + a + ", 0, " + a + ", 0)", x.alike(a, 0, a, 0), false);
            CHECKS.due("alike(0, 0, " + a + ", 0)", x.alike(0, 0, a, 0), false);
            CHECKS.due("alike(" + a + ", 0, 0, 0)", x.alike(a, 0, 0, 0), false);
        }
        x.release(2);
        CHECKS.due("alike(0, 0, 2, 0), released", x.alike(0, 0, 2, 0), false);
    }
}
