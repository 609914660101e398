/** Promises 7 and 14 to 21, with ordinary inputs: what is told of arrays and leaves. */
public final class AnswersTest {
    private static final Checks CHECKS = new Checks();

    public static void main(String[] args) {
        getTellsEachValue();
        sumOfEachRange();
        boundTellsLeastAndGreatest();
        findTellsTheLeastIndex();
        differenceTellsTheLeastIndex();
        usedAndMadeCountLeavesOnce();
        leafTellsItsKind();
        alikeIsOneOwnLeaf();
        CHECKS.end();
    }

    private static void getTellsEachValue() {
        SharedLeaves x = Samples.counting(50);
        x.fill(0, 16, 32, -4);
        for (int i = 0; i < 50; i++) {
            CHECKS.due("get(0, " + i + ")", x.get(0, i), i >= 16 && i < 32 ? -4 : i);
        }
    }

    private static void sumOfEachRange() {
        SharedLeaves x = Samples.counting(40);
        for (int from = 0; from <= 40; from++) {
            int to = Math.min(40, from + 19);
            CHECKS.due("sum(0, " + from + ", " + to + ")", x.sum(0, from, to), (to - from) * (from + to - 1L) / 2);
        }
    }

    private static void boundTellsLeastAndGreatest() {
        SharedLeaves x = Samples.counting(40);
        x.set(0, 20, -5);
        x.set(0, 21, 500);
        CHECKS.due("bound(0, 0, 40, 0)", x.bound(0, 0, 40, 0), -5);
        CHECKS.due("bound(0, 0, 40, 1)", x.bound(0, 0, 40, 1), 500);
        CHECKS.due("bound(0, 0, 20, 1)", x.bound(0, 0, 20, 1), 19);
        CHECKS.due("bound(0, 21, 40, 0)", x.bound(0, 21, 40, 0), 22);
        CHECKS.due("bound(0, 22, 40, 1)", x.bound(0, 22, 40, 1), 39);
        CHECKS.due("bound(0, 7, 8, 0)", x.bound(0, 7, 8, 0), 7);
        CHECKS.due("bound(0, 7, 8, 1)", x.bound(0, 7, 8, 1), 7);
    }

    private static void findTellsTheLeastIndex() {
        SharedLeaves x = Samples.counting(40);
        x.set(0, 35, 3);
        CHECKS.due("find(0, 0, 3)", x.find(0, 0, 3), 3);
        CHECKS.due("find(0, 3, 3)", x.find(0, 3, 3), 3);
        CHECKS.due("find(0, 4, 3)", x.find(0, 4, 3), 35);
        CHECKS.due("find(0, 35, 3)", x.find(0, 35, 3), 35);
        CHECKS.due("find(0, 36, 3)", x.find(0, 36, 3), SharedLeaves.NONE);
        CHECKS.due("find(0, 0, 39)", x.find(0, 0, 39), 39);
        CHECKS.due("find(0, 0, 35)", x.find(0, 0, 35), SharedLeaves.NONE);
    }

    private static void differenceTellsTheLeastIndex() {
        SharedLeaves x = Samples.counting(40);
        x.copy(0);
        CHECKS.due("difference of copies", x.difference(0, 1), SharedLeaves.NONE);
        CHECKS.due("difference(0, 0)", x.difference(0, 0), SharedLeaves.NONE);
        x.set(1, 39, 0);
        CHECKS.due("difference at the end", x.difference(0, 1), 39);
        x.set(1, 17, 0);
        x.set(1, 30, 0);
        CHECKS.due("difference at 17", x.difference(0, 1), 17);
        CHECKS.due("difference at 17, other order", x.difference(1, 0), 17);
        x.slice(0, 0, 23);
        CHECKS.due("difference with a shorter one", x.difference(0, 2), 23);
        CHECKS.due("difference of a shorter one", x.difference(2, 0), 23);
    }

    private static void usedAndMadeCountLeavesOnce() {
        SharedLeaves x = Samples.counting(32);
        for (int copies = 0; copies < 10; copies++) {
            x.copy(0);
        }
        x.join(0, 0);
        CHECKS.due("used() of shared ones", x.used(), 2);
        CHECKS.due("made() of shared ones", x.made(), 2);
        x.set(11, 0, 9);
        CHECKS.due("used() with one more", x.used(), 3);
        x.fill(11, 0, 16, 9);
        CHECKS.due("used() with one fewer", x.used(), 2);
        CHECKS.due("made() never falls", x.made(), 3);
        x.set(11, 0, 8);
        CHECKS.due("used() anew", x.used(), 3);
        CHECKS.due("made() anew", x.made(), 4);
    }

    private static void leafTellsItsKind() {
        SharedLeaves x = Samples.counting(40);
        x.fill(0, 16, 32, 1);
        CHECKS.due("leaf OWN", x.leaf(0, 0), 1);
        CHECKS.due("leaf CONSTANT", x.leaf(0, 1), 0);
        CHECKS.due("leaf OWN, fewer than 16", x.leaf(0, 2), 1);
        x.copy(0);
        CHECKS.due("leaf SHARED", x.leaf(0, 0), 2);
        CHECKS.due("leaf CONSTANT in both", x.leaf(1, 1), 0);
        x.release(1);
        CHECKS.due("leaf OWN again", x.leaf(0, 0), 1);
    }

    private static void alikeIsOneOwnLeaf() {
        SharedLeaves x = Samples.counting(32);
        x.make(32, 1);
        x.copy(0);
        CHECKS.due("alike(0, 0, 2, 0)", x.alike(0, 0, 2, 0), true);
        CHECKS.due("alike(2, 1, 0, 1)", x.alike(2, 1, 0, 1), true);
        CHECKS.due("alike(0, 0, 0, 0), itself", x.alike(0, 0, 0, 0), true);
        CHECKS.due("alike(0, 0, 2, 1)", x.alike(0, 0, 2, 1), false);
        CHECKS.due("alike(1, 0, 1, 0), CONSTANT", x.alike(1, 0, 1, 0), false);
        CHECKS.due("alike(1, 0, 1, 1), CONSTANT", x.alike(1, 0, 1, 1), false);
        CHECKS.due("alike(0, 0, 1, 0), CONSTANT", x.alike(0, 0, 1, 0), false);
        x.release(2);
        CHECKS.due("alike(0, 0, 2, 0), released", x.alike(0, 0, 2, 0), false);
    }
}
