import java.util.Arrays;

/** Promises 8 to 12, with ordinary inputs: an array is CHANGED, leaf by leaf, and no other array with it. */
public final class ChangesTest {
    private static final Checks CHECKS = new Checks();
    private static final int LEAST_INT = Integer.MIN_VALUE;
    private static final int GREATEST_INT = Integer.MAX_VALUE;

    public static void main(String[] args) {
        setMakesAndUnmakesOwnLeaves();
        setOfTheSameValueChangesNothing();
        setOfASharedLeafMakesANewOne();
        setOfASharedLeafToOneNumber();
        setInAPartLeaf();
        fillAcrossLeaves();
        fillOfSharedLeaves();
        moveUpAndDown();
        moveOfSharedLeaves();
        sortOrdersAllInts();
        sortChangesOnlyWhatItMust();
        reverseTurnsRound();
        reverseOfLeavesSharedWithinOneArray();
        CHECKS.end();
    }

    private static void setMakesAndUnmakesOwnLeaves() {
        SharedLeaves x = new SharedLeaves();
        x.make(4096, 7);
        x.set(0, 4095, 8);
        CHECKS.due("set: leaf(0, 255)", x.leaf(0, 255), 1);
        CHECKS.due("set: leaf(0, 254)", x.leaf(0, 254), 0);
        CHECKS.due("set: get(0, 4095)", x.get(0, 4095), 8);
        CHECKS.due("set: get(0, 4094)", x.get(0, 4094), 7);
        x.set(0, 4080, 9);
        CHECKS.due("set: made() with the leaf itself", x.made(), 1);
        CHECKS.due("set: get(0, 4080)", x.get(0, 4080), 9);
        x.set(0, 4080, 7);
        x.set(0, 4095, 7);
        CHECKS.due("set: leaf(0, 255) of one number", x.leaf(0, 255), 0);
        CHECKS.due("set: used() then", x.used(), 0);
        CHECKS.due("set: made() then", x.made(), 1);
        x.set(0, 0, LEAST_INT);
        CHECKS.due("set: made() anew", x.made(), 2);
        CHECKS.due("set: get(0, 0)", x.get(0, 0), LEAST_INT);
    }

    private static void setOfTheSameValueChangesNothing() {
        SharedLeaves x = Samples.counting(16);
        x.copy(0);
        x.set(1, 3, 3);
        CHECKS.due("set the same: leaf(1, 0)", x.leaf(1, 0), 2);
        CHECKS.due("set the same: alike(0, 0, 1, 0)", x.alike(0, 0, 1, 0), true);
        CHECKS.due("set the same: made()", x.made(), 1);
    }

    private static void setOfASharedLeafMakesANewOne() {
        SharedLeaves x = Samples.counting(32);
        x.copy(0);
        x.copy(0);
        x.set(1, 3, 30);
        CHECKS.due("set shared: leaf(0, 0)", x.leaf(0, 0), 2);
        CHECKS.due("set shared: leaf(1, 0)", x.leaf(1, 0), 1);
        CHECKS.due("set shared: leaf(1, 1)", x.leaf(1, 1), 2);
        CHECKS.due("set shared: alike(0, 0, 2, 0)", x.alike(0, 0, 2, 0), true);
        CHECKS.due("set shared: alike(0, 0, 1, 0)", x.alike(0, 0, 1, 0), false);
        CHECKS.due("set shared: used()", x.used(), 3);
        x.set(2, 3, 30);
        CHECKS.due("set the like: alike(1, 0, 2, 0)", x.alike(1, 0, 2, 0), false);
        CHECKS.due("set the like: leaf(0, 0)", x.leaf(0, 0), 1);
        CHECKS.due("set the like: used()", x.used(), 4);
        x.set(0, 3, 30);
        CHECKS.due("set the last: made()", x.made(), 4);
        x.set(1, 3, 3);
        CHECKS.due("set back: alike(0, 0, 1, 0)", x.alike(0, 0, 1, 0), false);
        CHECKS.due("set back: made()", x.made(), 4);
    }

    private static void setOfASharedLeafToOneNumber() {
        SharedLeaves x = new SharedLeaves();
        x.make(16, 1);
        x.set(0, 5, 2);
        x.copy(0);
        x.set(1, 5, 1);
        CHECKS.due("set to one number: leaf(1, 0)", x.leaf(1, 0), 0);
        CHECKS.due("set to one number: leaf(0, 0)", x.leaf(0, 0), 1);
        CHECKS.due("set to one number: get(0, 5)", x.get(0, 5), 2);
        CHECKS.due("set to one number: made()", x.made(), 1);
    }

    private static void setInAPartLeaf() {
        SharedLeaves x = new SharedLeaves();
        x.make(17, 1);
        x.set(0, 16, 2);
        CHECKS.due("set a single value: leaf(0, 1)", x.leaf(0, 1), 0);
        CHECKS.due("set a single value: get(0, 16)", x.get(0, 16), 2);
        CHECKS.due("set a single value: get(0, 15)", x.get(0, 15), 1);
        x.make(18, 1);
        x.set(1, 16, 2);
        CHECKS.due("set one of two: leaf(1, 1)", x.leaf(1, 1), 1);
        x.set(1, 17, 2);
        CHECKS.due("set two of two: leaf(1, 1)", x.leaf(1, 1), 0);
        CHECKS.due("set two of two: made()", x.made(), 1);
    }

    private static void fillAcrossLeaves() {
        SharedLeaves x = new SharedLeaves();
        x.make(70, 1);
        x.fill(0, 10, 66, 2);
        int[] kinds = {1, 0, 0, 0, 1};
        for (int k = 0; k < 5; k++) {
            CHECKS.due("fill: leaf(0, " + k + ")", x.leaf(0, k), kinds[k]);
        }
        CHECKS.due("fill: sum before", x.sum(0, 0, 10), 10);
        CHECKS.due("fill: sum inside", x.sum(0, 10, 66), 112);
        CHECKS.due("fill: sum behind", x.sum(0, 66, 70), 4);
        CHECKS.due("fill: used()", x.used(), 2);
        x.fill(0, 0, 70, 2);
        CHECKS.due("fill of all: used()", x.used(), 0);
        CHECKS.due("fill of all: made()", x.made(), 2);
        x.fill(0, 16, 32, 3);
        CHECKS.due("fill of a leaf: leaf(0, 1)", x.leaf(0, 1), 0);
        CHECKS.due("fill of a leaf: get(0, 15)", x.get(0, 15), 2);
        CHECKS.due("fill of a leaf: get(0, 16)", x.get(0, 16), 3);
        CHECKS.due("fill of a leaf: get(0, 31)", x.get(0, 31), 3);
        CHECKS.due("fill of a leaf: get(0, 32)", x.get(0, 32), 2);
        x.make(4096, 0);
        x.fill(1, 0, 4096, -1);
        CHECKS.due("fill of 4096: sum", x.sum(1, 0, 4096), -4096);
        CHECKS.due("fill: made() at the end", x.made(), 2);
    }

    private static void fillOfSharedLeaves() {
        SharedLeaves x = Samples.counting(48);
        x.copy(0);
        x.fill(1, 8, 40, 99);
        CHECKS.due("fill shared: leaf(1, 0)", x.leaf(1, 0), 1);
        CHECKS.due("fill shared: leaf(1, 1)", x.leaf(1, 1), 0);
        CHECKS.due("fill shared: leaf(1, 2)", x.leaf(1, 2), 1);
        CHECKS.due("fill shared: leaf(0, 1)", x.leaf(0, 1), 1);
        CHECKS.due("fill shared: used()", x.used(), 5);
        CHECKS.due("fill shared: sum(0)", x.sum(0, 0, 48), 1128);
    }

    private static void moveUpAndDown() {
        SharedLeaves x = Samples.counting(40);
        x.copy(0);
        x.move(0, 5, 30, 10);
        for (int i = 0; i < 40; i++) {
            CHECKS.due("move up: get(0, " + i + ")", x.get(0, i), i >= 10 && i < 35 ? i - 5 : i);
        }
        x.move(1, 10, 35, 5);
        for (int i = 0; i < 40; i++) {
            CHECKS.due("move down: get(1, " + i + ")", x.get(1, i), i >= 5 && i < 30 ? i + 5 : i);
        }
        x.move(1, 0, 1, 39);
        CHECKS.due("move to the end: get(1, 39)", x.get(1, 39), 0);
        int made = x.made();
        x.move(1, 0, 40, 0);
        CHECKS.due("move to itself: made()", x.made(), made);
        CHECKS.due("move to itself: get(1, 20)", x.get(1, 20), 25);
    }

    private static void moveOfSharedLeaves() {
        SharedLeaves x = Samples.counting(64);
        x.copy(0);
        x.move(1, 0, 16, 16);
        CHECKS.due("move a leaf: alike(1, 0, 1, 1), values are moved, not leaves", x.alike(1, 0, 1, 1), false);
        CHECKS.due("move a leaf: leaf(1, 1)", x.leaf(1, 1), 1);
        CHECKS.due("move a leaf: leaf(1, 0)", x.leaf(1, 0), 2);
        CHECKS.due("move a leaf: leaf(1, 2)", x.leaf(1, 2), 2);
        CHECKS.due("move a leaf: leaf(0, 1)", x.leaf(0, 1), 1);
        CHECKS.due("move a leaf: get(0, 16)", x.get(0, 16), 16);
        CHECKS.due("move a leaf: get(1, 31)", x.get(1, 31), 15);
        CHECKS.due("move a leaf: made()", x.made(), 5);
        x.fill(1, 48, 64, 8);
        x.move(1, 48, 64, 32);
        CHECKS.due("move a constant: leaf(1, 2)", x.leaf(1, 2), 0);
        CHECKS.due("move a constant: get(1, 40)", x.get(1, 40), 8);
        CHECKS.due("move a constant: leaf(0, 2)", x.leaf(0, 2), 1);
    }

    private static void sortOrdersAllInts() {
        for (int n : new int[] {0, 1, 2, 15, 16, 17, 100, 240}) {
            SharedLeaves x = new SharedLeaves();
            x.make(n, 0);
            int[] due = new int[n];
            for (int i = 0; i < n; i++) {
                due[i] = i == n / 2 ? LEAST_INT : i == n / 3 ? GREATEST_INT : (i * 37 + 11) % 23 - 11;
                x.set(0, i, due[i]);
            }
            Arrays.sort(due);
            x.make(4096, 9);
            x.reverse(1);
            x.sort(0);
            for (int i = 0; i < n; i++) {
                CHECKS.due("sort of " + n + ": get(0, " + i + ")", x.get(0, i), due[i]);
            }
            CHECKS.due("sort of " + n + ": length", x.length(0), n);
        }
        SharedLeaves y = Samples.halfFull();
        y.sort(0);
        CHECKS.due("sort of 4096: find(0, 0, 1)", y.find(0, 0, 1), 4096 - 256);
        CHECKS.due("sort of 4096: sum of the end", y.sum(0, 4096 - 256, 4096), 256);
        CHECKS.due("sort of 4096: used()", y.used(), 0);
        CHECKS.due("sort of 4096: made()", y.made(), 256);
    }

    private static void sortChangesOnlyWhatItMust() {
        SharedLeaves x = Samples.counting(48);
        x.copy(0);
        x.sort(1);
        CHECKS.due("sort of rising: made()", x.made(), 3);
        CHECKS.due("sort of rising: alike(0, 2, 1, 2)", x.alike(0, 2, 1, 2), true);
        x.set(1, 16, 17);
        x.set(1, 17, 16);
        x.copy(1);
        int made = x.made();
        x.sort(2);
        CHECKS.due("sort: made() more", x.made() - made, 1);
        CHECKS.due("sort: alike(1, 0, 2, 0)", x.alike(1, 0, 2, 0), true);
        CHECKS.due("sort: alike(0, 1, 2, 1), of like values", x.alike(0, 1, 2, 1), false);
        CHECKS.due("sort: get(1, 16)", x.get(1, 16), 17);
        CHECKS.due("sort: difference(0, 2)", x.difference(0, 2), SharedLeaves.NONE);
    }

    private static void reverseTurnsRound() {
        for (int n : new int[] {0, 1, 2, 15, 16, 17, 33, 100}) {
            SharedLeaves x = Samples.counting(n);
            x.make(3, 3);
            int made = x.made();
            x.reverse(0);
            for (int i = 0; i < n; i++) {
                CHECKS.due("reverse of " + n + ": get(0, " + i + ")", x.get(0, i), n - 1 - i);
            }
            CHECKS.due("reverse of " + n + ": made() as it was", x.made(), made);
        }
        SharedLeaves y = new SharedLeaves();
        y.make(4096, 0);
        y.set(0, 0, 1);
        y.reverse(0);
        CHECKS.due("reverse of 4096: find(0, 0, 1)", y.find(0, 0, 1), 4095);
        CHECKS.due("reverse of 4096: leaf(0, 0)", y.leaf(0, 0), 0);
        CHECKS.due("reverse of 4096: leaf(0, 255)", y.leaf(0, 255), 1);
        CHECKS.due("reverse of 4096: used()", y.used(), 1);
        CHECKS.due("reverse of 4096: made()", y.made(), 2);
    }

    private static void reverseOfLeavesSharedWithinOneArray() {
        SharedLeaves x = Samples.counting(16);
        x.join(0, 0);
        x.release(0);
        CHECKS.due("shared within one: leaf(1, 0)", x.leaf(1, 0), 2);
        x.reverse(1);
        CHECKS.due("both were SHARED before: made()", x.made(), 3);
        CHECKS.due("both were SHARED before: used()", x.used(), 2);
        CHECKS.due("both were SHARED before: alike(1, 0, 1, 1)", x.alike(1, 0, 1, 1), false);
        CHECKS.due("both were SHARED before: get(1, 16)", x.get(1, 16), 15);
        SharedLeaves y = new SharedLeaves();
        y.make(16, 1);
        y.set(0, 0, 2);
        y.set(0, 15, 2);
        y.copy(0);
        y.reverse(0);
        CHECKS.due("the same either way: alike(0, 0, 1, 0)", y.alike(0, 0, 1, 0), true);
    }
}
