/** Promises 1 to 6 and 13, with ordinary inputs: arrays come and go. */
public final class ArraysTest {
    private static final Checks CHECKS = new Checks();

    public static void main(String[] args) {
        makeIsNTimesAValue();
        copySharesAllLeaves();
        copyIsItsOwnRow();
        sliceAtAMultipleSharesWholeLeaves();
        sliceBesideAMultipleIsNew();
        sliceNewLeavesMayBeConstant();
        joinAtAMultipleSharesEverything();
        joinBesideAMultipleIsNew();
        joinNewLeavesMayBeConstant();
        releaseFreesTheNumberAndTheLeaves();
        CHECKS.end();
    }

    private static void makeIsNTimesAValue() {
        SharedLeaves x = new SharedLeaves();
        CHECKS.due("make(100, 7)", x.make(100, 7), 0);
        CHECKS.due("make(3, -4)", x.make(3, -4), 1);
        CHECKS.due("make: length(0)", x.length(0), 100);
        CHECKS.due("make: length(1)", x.length(1), 3);
        for (int i = 0; i < 100; i++) {
            CHECKS.due("make: get(0, " + i + ")", x.get(0, i), 7);
        }
        CHECKS.due("make: sum(1, 0, 3)", x.sum(1, 0, 3), -12);
    }

    private static void copySharesAllLeaves() {
        SharedLeaves x = Samples.counting(37);
        x.fill(0, 16, 32, 5);
        CHECKS.due("copy: used() before", x.used(), 2);
        CHECKS.due("copy(0)", x.copy(0), 1);
        CHECKS.due("copy: used()", x.used(), 2);
        CHECKS.due("copy: made()", x.made(), 3);
        CHECKS.due("copy: length(1)", x.length(1), 37);
        CHECKS.due("copy: difference(0, 1)", x.difference(0, 1), SharedLeaves.NONE);
        int[] kinds = {2, 0, 2};
        for (int k = 0; k < 3; k++) {
            CHECKS.due("copy: leaf(0, " + k + ")", x.leaf(0, k), kinds[k]);
            CHECKS.due("copy: leaf(1, " + k + ")", x.leaf(1, k), kinds[k]);
            CHECKS.due("copy: alike leaf " + k, x.alike(0, k, 1, k), kinds[k] == 2);
        }
    }

    private static void copyIsItsOwnRow() {
        SharedLeaves x = Samples.counting(20);
        x.copy(0);
        x.copy(1);
        x.set(1, 19, 99);
        CHECKS.due("copy written: get(1, 19)", x.get(1, 19), 99);
        CHECKS.due("copy written: get(0, 19)", x.get(0, 19), 19);
        CHECKS.due("copy written: get(2, 19)", x.get(2, 19), 19);
        x.set(0, 0, -1);
        CHECKS.due("source written: get(0, 0)", x.get(0, 0), -1);
        CHECKS.due("source written: get(1, 0)", x.get(1, 0), 0);
        CHECKS.due("source written: get(2, 0)", x.get(2, 0), 0);
        x.release(0);
        CHECKS.due("source released: sum(2, 0, 20)", x.sum(2, 0, 20), 190);
    }

    private static void sliceAtAMultipleSharesWholeLeaves() {
        SharedLeaves x = Samples.counting(70);
        int before = x.made();
        CHECKS.due("slice(0, 16, 56)", x.slice(0, 16, 56), 1);
        CHECKS.due("slice: length(1)", x.length(1), 40);
        CHECKS.due("slice: first value", x.get(1, 0), 16);
        CHECKS.due("slice: last value", x.get(1, 39), 55);
        CHECKS.due("slice: alike(0, 1, 1, 0)", x.alike(0, 1, 1, 0), true);
        CHECKS.due("slice: alike(0, 2, 1, 1)", x.alike(0, 2, 1, 1), true);
        CHECKS.due("slice: alike(0, 3, 1, 2), cut", x.alike(0, 3, 1, 2), false);
        CHECKS.due("slice: leaf(0, 0)", x.leaf(0, 0), 1);
        CHECKS.due("slice: leaf(0, 1)", x.leaf(0, 1), 2);
        CHECKS.due("slice: leaf(1, 2)", x.leaf(1, 2), 1);
        CHECKS.due("slice: made() more", x.made() - before, 1);
        CHECKS.due("slice(0, 0, 16)", x.slice(0, 0, 16), 2);
        CHECKS.due("slice: alike(0, 0, 2, 0)", x.alike(0, 0, 2, 0), true);
        CHECKS.due("slice: made() as it was", x.made() - before, 1);
    }

    private static void sliceBesideAMultipleIsNew() {
        for (int from : new int[] {1, 15, 17, 31}) {
            SharedLeaves x = Samples.counting(64);
            x.slice(0, from, 64);
            int leaves = (64 - from + 15) / 16;
            int own = (64 - from) % 16 == 1 ? leaves - 1 : leaves;
            CHECKS.due("slice from " + from + ": used()", x.used(), 4 + own);
            CHECKS.due("slice from " + from + ": first value", x.get(1, 0), from);
            CHECKS.due("slice from " + from + ": last value", x.get(1, 63 - from), 63);
            for (int k = 0; k < 4; k++) {
                CHECKS.due("slice from " + from + ": leaf(0, " + k + ")", x.leaf(0, k), 1);
            }
        }
        SharedLeaves y = Samples.counting(64);
        y.slice(0, 16, 47);
        CHECKS.due("slice to 47: alike(0, 1, 1, 0)", y.alike(0, 1, 1, 0), true);
        CHECKS.due("slice to 47: alike(0, 2, 1, 1)", y.alike(0, 2, 1, 1), false);
        y.slice(0, 16, 49);
        CHECKS.due("slice to 49: alike(0, 2, 2, 1)", y.alike(0, 2, 2, 1), true);
        CHECKS.due("slice to 49: leaf(2, 2), one value", y.leaf(2, 2), 0);
    }

    private static void sliceNewLeavesMayBeConstant() {
        SharedLeaves x = new SharedLeaves();
        x.make(48, 3);
        x.set(0, 0, 1);
        x.set(0, 47, 2);
        x.slice(0, 1, 47);
        CHECKS.due("slice of one number: used()", x.used(), 2);
        for (int k = 0; k < 3; k++) {
            CHECKS.due("slice of one number: leaf(1, " + k + ")", x.leaf(1, k), 0);
        }
        CHECKS.due("slice of one number: sum", x.sum(1, 0, 46), 138);
        x.slice(0, 32, 47);
        CHECKS.due("slice of a part of one number: leaf(2, 0)", x.leaf(2, 0), 0);
        x.slice(0, 16, 48);
        CHECKS.due("slice with a constant leaf: leaf(3, 0)", x.leaf(3, 0), 0);
        CHECKS.due("slice with a constant leaf: get(3, 0)", x.get(3, 0), 3);
        CHECKS.due("slice with a constant leaf: leaf(3, 1)", x.leaf(3, 1), 2);
        CHECKS.due("slice with a constant leaf: made()", x.made(), 2);
    }

    private static void joinAtAMultipleSharesEverything() {
        SharedLeaves x = Samples.counting(32);
        x.make(20, 50);
        x.set(1, 0, 51);
        x.set(1, 19, 52);
        int before = x.made();
        CHECKS.due("join(0, 1)", x.join(0, 1), 2);
        CHECKS.due("join: length(2)", x.length(2), 52);
        CHECKS.due("join: made() as it was", x.made(), before);
        CHECKS.due("join: alike(2, 0, 0, 0)", x.alike(2, 0, 0, 0), true);
        CHECKS.due("join: alike(2, 1, 0, 1)", x.alike(2, 1, 0, 1), true);
        CHECKS.due("join: alike(2, 2, 1, 0)", x.alike(2, 2, 1, 0), true);
        CHECKS.due("join: alike(2, 3, 1, 1), fewer than 16", x.alike(2, 3, 1, 1), true);
        CHECKS.due("join: get(2, 31)", x.get(2, 31), 31);
        CHECKS.due("join: get(2, 32)", x.get(2, 32), 51);
        CHECKS.due("join: get(2, 51)", x.get(2, 51), 52);
        CHECKS.due("join(0, 0)", x.join(0, 0), 3);
        CHECKS.due("join with itself: alike(3, 1, 3, 3)", x.alike(3, 1, 3, 3), true);
        CHECKS.due("join with itself: alike(3, 0, 3, 1)", x.alike(3, 0, 3, 1), false);
        CHECKS.due("join with itself: used()", x.used(), 4);
    }

    private static void joinBesideAMultipleIsNew() {
        for (int n : new int[] {15, 17, 31}) {
            SharedLeaves x = Samples.counting(n);
            int before = x.made();
            x.join(0, 0);
            int whole = n / 16;
            int rest = 2 * n - 16 * whole;
            int own = rest % 16 == 1 ? rest / 16 : (rest + 15) / 16;
            CHECKS.due("join of " + n + ": made() more", x.made() - before, own);
            CHECKS.due("join of " + n + ": length(1)", x.length(1), 2 * n);
            CHECKS.due("join of " + n + ": alike(0, 0, 1, 0)", x.alike(0, 0, 1, 0), n > 15);
            CHECKS.due("join of " + n + ": end of the first", x.get(1, n - 1), n - 1);
            CHECKS.due("join of " + n + ": start of the second", x.get(1, n), 0);
            CHECKS.due("join of " + n + ": last value", x.get(1, 2 * n - 1), n - 1);
            CHECKS.due("join of " + n + ": sum", x.sum(1, 0, 2 * n), n * (n - 1));
        }
    }

    private static void joinNewLeavesMayBeConstant() {
        SharedLeaves x = new SharedLeaves();
        x.make(10, 4);
        x.make(22, 4);
        x.make(17, 5);
        x.join(0, 1);
        CHECKS.due("join of one number: leaf(3, 0)", x.leaf(3, 0), 0);
        CHECKS.due("join of one number: leaf(3, 1)", x.leaf(3, 1), 0);
        x.join(0, 2);
        CHECKS.due("join of two numbers: leaf(4, 0)", x.leaf(4, 0), 1);
        CHECKS.due("join of two numbers: leaf(4, 1)", x.leaf(4, 1), 0);
        CHECKS.due("join of two numbers: get(4, 9)", x.get(4, 9), 4);
        CHECKS.due("join of two numbers: get(4, 10)", x.get(4, 10), 5);
        CHECKS.due("join of two numbers: get(4, 26)", x.get(4, 26), 5);
        CHECKS.due("join: used()", x.used(), 1);
    }

    private static void releaseFreesTheNumberAndTheLeaves() {
        SharedLeaves x = Samples.counting(40);
        x.copy(0);
        x.set(1, 0, 7);
        CHECKS.due("release: used() before", x.used(), 4);
        CHECKS.due("release(0)", x.release(0), true);
        CHECKS.due("release(0) again", x.release(0), false);
        CHECKS.due("release: used()", x.used(), 3);
        CHECKS.due("release: made()", x.made(), 4);
        CHECKS.due("release: length(0)", x.length(0), SharedLeaves.NONE);
        CHECKS.due("release: leaf(0, 0)", x.leaf(0, 0), SharedLeaves.NONE);
        CHECKS.due("release: leaf(1, 1) is OWN again", x.leaf(1, 1), 1);
        CHECKS.due("release: get(1, 39)", x.get(1, 39), 39);
        CHECKS.due("release(1)", x.release(1), true);
        CHECKS.due("release of all: used()", x.used(), 0);
    }
}
