/** Promises 1 to 6 and 13: arrays come and go. */
public final class ArraysTest {
    private static final Checks CHECKS = new Checks();
    private static final int LEAST_INT = Integer.MIN_VALUE;
    private static final int GREATEST_INT = Integer.MAX_VALUE;

    public static void main(String[] args) {
        newObjectHasNoArrays();
        makeTakesTheLeastNumber();
        makeHasConstantLeaves();
        makeRefuses();
        copySharesAllLeaves();
        copyIsItsOwnRow();
        copyRefuses();
        sliceAtAMultipleSharesWholeLeaves();
        sliceBesideAMultipleIsNew();
        sliceOfAllMakesAPartLeafNew();
        sliceNewLeavesMayBeConstant();
        sliceEmpty();
        sliceRefuses();
        joinAtAMultipleSharesEverything();
        joinBesideAMultipleIsNew();
        joinWithEmptyArrays();
        joinNewLeavesMayBeConstant();
        joinOfMostValues();
        joinRefuses();
        releaseFreesTheNumberAndTheLeaves();
        releasedNumberBeginsAnew();
        lengthIsTold();
        CHECKS.end();
    }

    private static void newObjectHasNoArrays() {
        SharedLeaves x = new SharedLeaves();
        for (int a = -1; a <= 16; a++) {
            CHECKS.due("new: length(" + a + ")", x.length(a), SharedLeaves.NONE);
        }
        CHECKS.due("new: used()", x.used(), 0);
        CHECKS.due("new: made()", x.made(), 0);
        CHECKS.due("new: make(3, 4)", x.make(3, 4), 0);
        SharedLeaves y = new SharedLeaves();
        CHECKS.due("another new: length(0)", y.length(0), SharedLeaves.NONE);
    }

    private static void makeTakesTheLeastNumber() {
        SharedLeaves x = Samples.allThere();
        x.release(9);
        x.release(3);
        x.release(15);
        CHECKS.due("make: least number", x.make(1, 1), 3);
        CHECKS.due("make: next number", x.make(1, 1), 9);
        CHECKS.due("make: last number", x.make(1, 1), 15);
    }

    private static void makeHasConstantLeaves() {
        int[] lengths = {0, 1, 15, 16, 17, 4095, 4096};
        SharedLeaves x = new SharedLeaves();
        for (int a = 0; a < lengths.length; a++) {
            int n = lengths[a];
            int leaves = (n + 15) / 16;
            CHECKS.due("make(" + n + ", -7)", x.make(n, -7), a);
            CHECKS.due("make: length of " + n, x.length(a), n);
            CHECKS.due("make: sum of " + n, x.sum(a, 0, n), -7L * n);
            CHECKS.due("make: leaf before the first of " + n, x.leaf(a, -1), SharedLeaves.NONE);
            CHECKS.due("make: leaf 0 of " + n, x.leaf(a, 0), n == 0 ? SharedLeaves.NONE : 0);
            CHECKS.due("make: last leaf of " + n, x.leaf(a, leaves - 1), n == 0 ? SharedLeaves.NONE : 0);
            CHECKS.due("make: leaf behind the last of " + n, x.leaf(a, leaves), SharedLeaves.NONE);
        }
        CHECKS.due("make: used()", x.used(), 0);
        CHECKS.due("make: made()", x.made(), 0);
    }

    private static void makeRefuses() {
        SharedLeaves x = new SharedLeaves();
        for (int n : new int[] {-1, 4097, LEAST_INT, GREATEST_INT}) {
            CHECKS.argumentRefused("make(" + n + ", 0)", () -> x.make(n, 0));
        }
        CHECKS.due("make: length(0) after refusals", x.length(0), SharedLeaves.NONE);
        SharedLeaves y = Samples.allThere();
        CHECKS.stateRefused("make(0, 0) with all there", () -> y.make(0, 0));
        CHECKS.stateRefused("make(4096, 0) with all there", () -> y.make(4096, 0));
        CHECKS.due("make: length(0) is as it was", y.length(0), 0);
        CHECKS.due("make: length(15) is as it was", y.length(15), 15);
    }

    private static void copySharesAllLeaves() {
        SharedLeaves x = Samples.counting(37);
        x.fill(0, 16, 32, 5);
        CHECKS.due("copy: used() before", x.used(), 2);
        CHECKS.due("copy(0)", x.copy(0), 1);
        CHECKS.due("copy: used()", x.used(), 2);
        CHECKS.due("copy: made()", x.made(), 3);
        CHECKS.due("copy: length(1)", x.length(1), 37);
        CHECKS.due("copy: difference(0, 1)", x.difference(0, 1), SharedLeaves.NONE);
        int[] kinds = {2, 0, 2};
        for (int k = 0; k < 3; k++) {
            CHECKS.due("copy: leaf(0, " + k + ")", x.leaf(0, k), kinds[k]);
            CHECKS.due("copy: leaf(1, " + k + ")", x.leaf(1, k), kinds[k]);
            CHECKS.due("copy: alike leaf " + k, x.alike(0, k, 1, k), kinds[k] == 2);
        }
        x.make(0, 1);
        CHECKS.due("copy of no values", x.copy(2), 3);
        CHECKS.due("copy: length(3)", x.length(3), 0);
    }

    private static void copyIsItsOwnRow() {
        SharedLeaves x = Samples.counting(20);
        x.copy(0);
        x.copy(1);
        x.set(1, 19, 99);
        CHECKS.due("copy written: get(1, 19)", x.get(1, 19), 99);
        CHECKS.due("copy written: get(0, 19)", x.get(0, 19), 19);
        CHECKS.due("copy written: get(2, 19)", x.get(2, 19), 19);
        x.set(0, 0, -1);
        CHECKS.due("source written: get(0, 0)", x.get(0, 0), -1);
        CHECKS.due("source written: get(1, 0)", x.get(1, 0), 0);
        CHECKS.due("source written: get(2, 0)", x.get(2, 0), 0);
        x.release(0);
        CHECKS.due("source released: sum(2, 0, 20)", x.sum(2, 0, 20), 190);
    }

    private static void copyRefuses() {
        SharedLeaves x = new SharedLeaves();
        x.make(1, 1);
        for (int a : new int[] {-1, 1, 15, 16, LEAST_INT, GREATEST_INT}) {
            CHECKS.argumentRefused("copy(" + a + ")", () -> x.copy(a));
        }
        CHECKS.due("copy: length(1) after refusals", x.length(1), SharedLeaves.NONE);
        SharedLeaves y = Samples.allThere();
        CHECKS.stateRefused("copy(0) with all there", () -> y.copy(0));
    }

    private static void sliceAtAMultipleSharesWholeLeaves() {
        SharedLeaves x = Samples.counting(70);
        int before = x.made();
        CHECKS.due("slice(0, 16, 56)", x.slice(0, 16, 56), 1);
        CHECKS.due("slice: length(1)", x.length(1), 40);
        CHECKS.due("slice: first value", x.get(1, 0), 16);
        CHECKS.due("slice: last value", x.get(1, 39), 55);
        CHECKS.due("slice: alike(0, 1, 1, 0)", x.alike(0, 1, 1, 0), true);
        CHECKS.due("slice: alike(0, 2, 1, 1)", x.alike(0, 2, 1, 1), true);
        CHECKS.due("slice: alike(0, 3, 1, 2), cut", x.alike(0, 3, 1, 2), false);
        CHECKS.due("slice: leaf(0, 0)", x.leaf(0, 0), 1);
        CHECKS.due("slice: leaf(0, 1)", x.leaf(0, 1), 2);
        CHECKS.due("slice: leaf(1, 2)", x.leaf(1, 2), 1);
        CHECKS.due("slice: made() more", x.made() - before, 1);
        CHECKS.due("slice(0, 0, 16)", x.slice(0, 0, 16), 2);
        CHECKS.due("slice: alike(0, 0, 2, 0)", x.alike(0, 0, 2, 0), true);
        CHECKS.due("slice: made() as it was", x.made() - before, 1);
    }

    private static void sliceBesideAMultipleIsNew() {
        for (int from : new int[] {1, 15, 17, 31}) {
            SharedLeaves x = Samples.counting(64);
            x.slice(0, from, 64);
            int leaves = (64 - from + 15) / 16;
            int own = (64 - from) % 16 == 1 ? leaves - 1 : leaves;
            CHECKS.due("slice from " + from + ": used()", x.used(), 4 + own);
            CHECKS.due("slice from " + from + ": first value", x.get(1, 0), from);
            CHECKS.due("slice from " + from + ": last value", x.get(1, 63 - from), 63);
            for (int k = 0; k < 4; k++) {
                CHECKS.due("slice from " + from + ": leaf(0, " + k + ")", x.leaf(0, k), 1);
            }
        }
        SharedLeaves y = Samples.counting(64);
        y.slice(0, 16, 47);
        CHECKS.due("slice to 47: alike(0, 1, 1, 0)", y.alike(0, 1, 1, 0), true);
        CHECKS.due("slice to 47: alike(0, 2, 1, 1)", y.alike(0, 2, 1, 1), false);
        y.slice(0, 16, 49);
        CHECKS.due("slice to 49: alike(0, 2, 2, 1)", y.alike(0, 2, 2, 1), true);
        CHECKS.due("slice to 49: leaf(2, 2), one value", y.leaf(2, 2), 0);
    }

    private static void sliceOfAllMakesAPartLeafNew() {
        SharedLeaves x = Samples.counting(20);
        CHECKS.due("slice(0, 0, 20)", x.slice(0, 0, 20), 1);
        CHECKS.due("slice of all: alike(0, 0, 1, 0)", x.alike(0, 0, 1, 0), true);
        CHECKS.due("slice of all: alike(0, 1, 1, 1), fewer than 16", x.alike(0, 1, 1, 1), false);
        CHECKS.due("slice of all: used()", x.used(), 3);
        CHECKS.due("slice of all: difference(0, 1)", x.difference(0, 1), SharedLeaves.NONE);
        SharedLeaves y = Samples.counting(10);
        y.slice(0, 0, 10);
        CHECKS.due("slice of a single part leaf: leaf(0, 0)", y.leaf(0, 0), 1);
        CHECKS.due("slice of a single part leaf: leaf(1, 0)", y.leaf(1, 0), 1);
    }

    private static void sliceNewLeavesMayBeConstant() {
        SharedLeaves x = new SharedLeaves();
        x.make(48, 3);
        x.set(0, 0, 1);
        x.set(0, 47, 2);
        x.slice(0, 1, 47);
        CHECKS.due("slice of one number: used()", x.used(), 2);
        for (int k = 0; k < 3; k++) {
            CHECKS.due("slice of one number: leaf(1, " + k + ")", x.leaf(1, k), 0);
        }
        CHECKS.due("slice of one number: sum", x.sum(1, 0, 46), 138);
        x.slice(0, 32, 47);
        CHECKS.due("slice of a part of one number: leaf(2, 0)", x.leaf(2, 0), 0);
        x.slice(0, 16, 48);
        CHECKS.due("slice with a constant leaf: leaf(3, 0)", x.leaf(3, 0), 0);
        CHECKS.due("slice with a constant leaf: get(3, 0)", x.get(3, 0), 3);
        CHECKS.due("slice with a constant leaf: leaf(3, 1)", x.leaf(3, 1), 2);
        CHECKS.due("slice with a constant leaf: made()", x.made(), 2);
    }

    private static void sliceEmpty() {
        SharedLeaves x = Samples.counting(20);
        int number = 1;
        for (int from : new int[] {0, 5, 16, 20}) {
            CHECKS.due("slice(0, " + from + ", " + from + ")", x.slice(0, from, from), number);
            CHECKS.due("slice empty: length", x.length(number), 0);
            CHECKS.due("slice empty: leaf", x.leaf(number, 0), SharedLeaves.NONE);
            number++;
        }
        CHECKS.due("slice empty: used()", x.used(), 2);
        x.make(4096, 1);
        CHECKS.due("slice empty at 4096", x.slice(5, 4096, 4096), 6);
        CHECKS.due("slice empty of empty", x.slice(6, 0, 0), 7);
    }

    private static void sliceRefuses() {
        SharedLeaves x = Samples.counting(20);
        int[][] wrong = {{1, 0, 0}, {-1, 0, 0}, {16, 0, 0}, {0, -1, 3}, {0, 0, 21}, {0, 4, 3}, {0, 21, 21},
            {0, 21, 20}, {0, LEAST_INT, 3}, {0, 3, LEAST_INT}, {0, 3, GREATEST_INT}, {0, GREATEST_INT, LEAST_INT},
            {LEAST_INT, 0, 0}, {GREATEST_INT, 0, 0}};
        for (int[] w : wrong) {
            String call = "slice(" + w[0] + ", " + w[1] + ", " + w[2] + ")";
            CHECKS.argumentRefused(call, () -> x.slice(w[0], w[1], w[2]));
        }
        CHECKS.due("slice: length(1) after refusals", x.length(1), SharedLeaves.NONE);
        SharedLeaves y = Samples.allThere();
        CHECKS.stateRefused("slice(5, 1, 3) with all there", () -> y.slice(5, 1, 3));
        CHECKS.stateRefused("slice(0, 0, 0) with all there", () -> y.slice(0, 0, 0));
    }

    private static void joinAtAMultipleSharesEverything() {
        SharedLeaves x = Samples.counting(32);
        x.make(20, 50);
        x.set(1, 0, 51);
        x.set(1, 19, 52);
        int before = x.made();
        CHECKS.due("join(0, 1)", x.join(0, 1), 2);
        CHECKS.due("join: length(2)", x.length(2), 52);
        CHECKS.due("join: made() as it was", x.made(), before);
        CHECKS.due("join: alike(2, 0, 0, 0)", x.alike(2, 0, 0, 0), true);
        CHECKS.due("join: alike(2, 1, 0, 1)", x.alike(2, 1, 0, 1), true);
        CHECKS.due("join: alike(2, 2, 1, 0)", x.alike(2, 2, 1, 0), true);
        CHECKS.due("join: alike(2, 3, 1, 1), fewer than 16", x.alike(2, 3, 1, 1), true);
        CHECKS.due("join: get(2, 31)", x.get(2, 31), 31);
        CHECKS.due("join: get(2, 32)", x.get(2, 32), 51);
        CHECKS.due("join: get(2, 51)", x.get(2, 51), 52);
        CHECKS.due("join(0, 0)", x.join(0, 0), 3);
        CHECKS.due("join with itself: alike(3, 1, 3, 3)", x.alike(3, 1, 3, 3), true);
        CHECKS.due("join with itself: alike(3, 0, 3, 1)", x.alike(3, 0, 3, 1), false);
        CHECKS.due("join with itself: used()", x.used(), 4);
    }

    private static void joinBesideAMultipleIsNew() {
        for (int n : new int[] {15, 17, 31}) {
            SharedLeaves x = Samples.counting(n);
            int before = x.made();
            x.join(0, 0);
            int whole = n / 16;
            int rest = 2 * n - 16 * whole;
            int own = rest % 16 == 1 ? rest / 16 : (rest + 15) / 16;
            CHECKS.due("join of " + n + ": made() more", x.made() - before, own);
            CHECKS.due("join of " + n + ": length(1)", x.length(1), 2 * n);
            CHECKS.due("join of " + n + ": alike(0, 0, 1, 0)", x.alike(0, 0, 1, 0), n > 15);
            CHECKS.due("join of " + n + ": end of the first", x.get(1, n - 1), n - 1);
            CHECKS.due("join of " + n + ": start of the second", x.get(1, n), 0);
            CHECKS.due("join of " + n + ": last value", x.get(1, 2 * n - 1), n - 1);
            CHECKS.due("join of " + n + ": sum", x.sum(1, 0, 2 * n), n * (n - 1));
        }
    }

    private static void joinWithEmptyArrays() {
        SharedLeaves x = Samples.counting(20);
        x.make(0, 9);
        CHECKS.due("join(1, 0)", x.join(1, 0), 2);
        CHECKS.due("join behind empty: alike(0, 0, 2, 0)", x.alike(0, 0, 2, 0), true);
        CHECKS.due("join behind empty: alike(0, 1, 2, 1)", x.alike(0, 1, 2, 1), true);
        CHECKS.due("join(0, 1)", x.join(0, 1), 3);
        CHECKS.due("join before empty: alike(0, 0, 3, 0)", x.alike(0, 0, 3, 0), true);
        CHECKS.due("join before empty: alike(0, 1, 3, 1), fewer than 16", x.alike(0, 1, 3, 1), false);
        CHECKS.due("join before empty: difference(0, 3)", x.difference(0, 3), SharedLeaves.NONE);
        CHECKS.due("join(1, 1)", x.join(1, 1), 4);
        CHECKS.due("join of empties: length(4)", x.length(4), 0);
    }

    private static void joinNewLeavesMayBeConstant() {
        SharedLeaves x = new SharedLeaves();
        x.make(10, 4);
        x.make(22, 4);
        x.make(17, 5);
        x.join(0, 1);
        CHECKS.due("join of one number: leaf(3, 0)", x.leaf(3, 0), 0);
        CHECKS.due("join of one number: leaf(3, 1)", x.leaf(3, 1), 0);
        x.join(0, 2);
        CHECKS.due("join of two numbers: leaf(4, 0)", x.leaf(4, 0), 1);
        CHECKS.due("join of two numbers: leaf(4, 1)", x.leaf(4, 1), 0);
        CHECKS.due("join of two numbers: get(4, 9)", x.get(4, 9), 4);
        CHECKS.due("join of two numbers: get(4, 10)", x.get(4, 10), 5);
        CHECKS.due("join of two numbers: get(4, 26)", x.get(4, 26), 5);
        CHECKS.due("join: used()", x.used(), 1);
    }

    private static void joinOfMostValues() {
        SharedLeaves x = new SharedLeaves();
        x.make(4096, 1);
        x.make(0, 0);
        x.make(4095, 2);
        x.make(1, 3);
        CHECKS.due("join(0, 1) of 4096", x.join(0, 1), 4);
        CHECKS.due("join(1, 0) of 4096", x.join(1, 0), 5);
        CHECKS.due("join(2, 3) of 4096", x.join(2, 3), 6);
        CHECKS.due("join: length(6)", x.length(6), 4096);
        CHECKS.due("join: get(6, 4095)", x.get(6, 4095), 3);
        CHECKS.due("join: leaf(6, 255)", x.leaf(6, 255), 1);
        CHECKS.argumentRefused("join(0, 3) of 4097", () -> x.join(0, 3));
        CHECKS.argumentRefused("join(0, 0) of 8192", () -> x.join(0, 0));
        CHECKS.due("join: length(7)", x.length(7), SharedLeaves.NONE);
    }

    private static void joinRefuses() {
        SharedLeaves x = new SharedLeaves();
        x.make(1, 1);
        for (int a : new int[] {-1, 1, 16, LEAST_INT, GREATEST_INT}) {
            CHECKS.argumentRefused("join(" + a + ", 0)", () -> x.join(a, 0));
            CHECKS.argumentRefused("join(0, " + a + ")", () -> x.join(0, a));
        }
        CHECKS.due("join: length(1) after refusals", x.length(1), SharedLeaves.NONE);
        SharedLeaves y = Samples.allThere();
        CHECKS.stateRefused("join(1, 2) with all there", () -> y.join(1, 2));
        CHECKS.stateRefused("join(0, 0) with all there", () -> y.join(0, 0));
    }

    private static void releaseFreesTheNumberAndTheLeaves() {
        SharedLeaves x = Samples.counting(40);
        x.copy(0);
        x.set(1, 0, 7);
        CHECKS.due("release: used() before", x.used(), 4);
        CHECKS.due("release(0)", x.release(0), true);
        CHECKS.due("release(0) again", x.release(0), false);
        CHECKS.due("release: used()", x.used(), 3);
        CHECKS.due("release: made()", x.made(), 4);
        CHECKS.due("release: length(0)", x.length(0), SharedLeaves.NONE);
        CHECKS.due("release: leaf(0, 0)", x.leaf(0, 0), SharedLeaves.NONE);
        CHECKS.due("release: leaf(1, 1) is OWN again", x.leaf(1, 1), 1);
        CHECKS.due("release: get(1, 39)", x.get(1, 39), 39);
        CHECKS.argumentRefused("release: get(0, 0)", () -> x.get(0, 0));
        CHECKS.due("release(1)", x.release(1), true);
        CHECKS.due("release of all: used()", x.used(), 0);
        for (int a : new int[] {-1, 2, 15, 16, LEAST_INT, GREATEST_INT}) {
            CHECKS.due("release(" + a + ")", x.release(a), false);
        }
    }

    private static void releasedNumberBeginsAnew() {
        SharedLeaves x = Samples.counting(40);
        x.release(0);
        CHECKS.due("make after release", x.make(33, 6), 0);
        CHECKS.due("make after release: sum", x.sum(0, 0, 33), 198);
        CHECKS.due("make after release: leaf(0, 0)", x.leaf(0, 0), 0);
        CHECKS.due("make after release: leaf(0, 2)", x.leaf(0, 2), 0);
        CHECKS.due("make after release: used()", x.used(), 0);
        CHECKS.due("make after release: made()", x.made(), 3);
    }

    private static void lengthIsTold() {
        SharedLeaves x = Samples.allThere();
        for (int a = 0; a < 16; a++) {
            CHECKS.due("length(" + a + ")", x.length(a), a);
        }
        for (int a : new int[] {-1, 16, LEAST_INT, GREATEST_INT}) {
            CHECKS.due("length(" + a + ")", x.length(a), SharedLeaves.NONE);
        }
    }
}
