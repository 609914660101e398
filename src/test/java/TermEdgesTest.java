/** The boundaries of 'What it is' and of the terms, but for ROOM, a test for each sentence that names one. */
public final class TermEdgesTest {
    private static final Checks CHECKS = new Checks();
    private static final int NONE = SharedLeaves.NONE;

    public static void main(String[] args) {
        whatItIs();
        arraysAndLeaves();
        ownLeaves();
        newAndChanged();
        CHECKS.end();
    }

    private static void whatItIs() {
        CHECKS.sentence("each is its own row: the source is written", () -> writtenAlone(0));
        CHECKS.sentence("each is its own row: a copy is written", () -> writtenAlone(1));
        CHECKS.sentence("each is its own row: a slice is written", () -> writtenAlone(2));
        CHECKS.sentence("each is its own row: a join is written", () -> writtenAlone(4));
        CHECKS.sentence("each is its own row: one that has a leaf twice", TermEdgesTest::writtenWithALeafTwice);
        CHECKS.sentence("at most 512 calls: the last one answers", TermEdgesTest::lastCallAnswers);
        CHECKS.sentence("at most 512 calls: all of the dearest", TermEdgesTest::lastOfDearCallsAnswers);
    }

    private static void arraysAndLeaves() {
        CHECKS.sentence("ARRAYS 0 .. 15: every call on the first", () -> everyCallOn(0));
        CHECKS.sentence("ARRAYS 0 .. 15: every call on the last", () -> everyCallOn(15));
        CHECKS.sentence("LENGTH, 0 .. 4096", TermEdgesTest::lengthsThatCanBe);
        CHECKS.sentence("VALUES (ints): the least and the greatest", TermEdgesTest::valuesThatCanBe);
        CHECKS.sentence("LEAVES: values 16 k .. 16 k + 15: the first leaf", () -> leafOfValues(0));
        CHECKS.sentence("LEAVES: values 16 k .. 16 k + 15: the last of 256", () -> leafOfValues(255));
        CHECKS.sentence("the last one those that there are: one value", () -> lastLeafHas(1));
        CHECKS.sentence("the last one those that there are: 15 values", () -> lastLeafHas(15));
        CHECKS.sentence("the last one those that there are: 16 values", () -> lastLeafHas(16));
        CHECKS.sentence("CONSTANT, all its values being one number: a single value", TermEdgesTest::singleValueIsConstant);
    }

    private static void ownLeaves() {
        CHECKS.sentence("one of 512 PLACES", TermEdgesTest::placesThereAre);
        CHECKS.sentence("several leaves of one array may be one: SHARED", TermEdgesTest::sharedWithinOneArray);
        CHECKS.sentence("several leaves of several arrays may be one: SHARED", TermEdgesTest::sharedByAllArrays);
        CHECKS.sentence("that no array has any more: after release", TermEdgesTest::goneWithTheLastArray);
        CHECKS.sentence("that no array has any more: after a change", TermEdgesTest::goneWithTheLastChange);
    }

    private static void newAndChanged() {
        CHECKS.sentence("NEW: CONSTANT if they are one number", TermEdgesTest::newOfOneNumber);
        CHECKS.sentence("NEW: else one that wasn't there before", TermEdgesTest::newOfSeveralNumbers);
        CHECKS.sentence("CHANGED: the same values as before: CONSTANT", TermEdgesTest::sameValuesStayConstant);
        CHECKS.sentence("CHANGED: the same values as before: OWN", TermEdgesTest::sameValuesStayOwn);
        CHECKS.sentence("CHANGED: the same values as before: SHARED", TermEdgesTest::sameValuesStayShared);
        CHECKS.sentence("CHANGED: the same values as before: those that there are", TermEdgesTest::sameFewValuesStay);
        CHECKS.sentence("CHANGED: becomes CONSTANT: from CONSTANT", TermEdgesTest::constantFromConstant);
        CHECKS.sentence("CHANGED: becomes CONSTANT: from OWN", TermEdgesTest::constantFromOwn);
        CHECKS.sentence("CHANGED: becomes CONSTANT: from SHARED", TermEdgesTest::constantFromShared);
        CHECKS.sentence("CHANGED: itself with the other values", TermEdgesTest::ownBecomesItself);
        CHECKS.sentence("CHANGED: else a NEW one: from SHARED", TermEdgesTest::newFromShared);
        CHECKS.sentence("CHANGED: else a NEW one: from CONSTANT", TermEdgesTest::newFromConstant);
        CHECKS.sentence("CHANGED: wasn't SHARED before the call: both leaves change", TermEdgesTest::sharedBeforeTheCall);
        CHECKS.sentence("CHANGED: wasn't SHARED before the call: one is let go", TermEdgesTest::sharedUntilTheCall);
        CHECKS.sentence("CHANGED: leaf by leaf", TermEdgesTest::changedLeafByLeaf);
    }

    /** Arrays 0, 1, 2 and 4 share two leaves: the source, a copy, a slice, and a join with 3, which has no values. */
    private static SharedLeaves fourThatShare() {
        SharedLeaves x = Samples.counting(32);
        x.copy(0);
        x.slice(0, 0, 32);
        x.make(0, 0);
        x.join(0, 3);
        return x;
    }

    private static void writtenAlone(int a) {
        for (int way = 0; way < 5; way++) {
            SharedLeaves x = fourThatShare();
            CHECKS.due("used() before", x.used(), 2);
            write(x, a, way);
            for (int b : new int[] {0, 1, 2, 4}) {
                int want = a == b ? 0 : NONE;
                CHECKS.due("way " + way + ": the first written of " + b, firstThatIsNotCounting(x, b), want);
            }
        }
    }

    private static void write(SharedLeaves x, int a, int way) {
        if (way == 0) {
            x.set(a, 0, 99);
        } else if (way == 1) {
            x.fill(a, 0, 32, 99);
        } else if (way == 2) {
            x.move(a, 16, 32, 0);
        } else if (way == 3) {
            x.reverse(a);
        } else {
            x.set(a, 0, 99);
            x.sort(a);
        }
    }

    private static int firstThatIsNotCounting(SharedLeaves x, int a) {
        for (int i = 0; i < 32; i++) {
            if (x.get(a, i) != i) {
                return i;
            }
        }
        return NONE;
    }

    private static void writtenWithALeafTwice() {
        SharedLeaves x = Samples.counting(16);
        x.join(0, 0);
        x.set(1, 3, 99);
        CHECKS.due("get(1, 3)", x.get(1, 3), 99);
        CHECKS.due("get(1, 19)", x.get(1, 19), 3);
        CHECKS.due("get(0, 3)", x.get(0, 3), 3);
        x.set(1, 19, 98);
        CHECKS.due("get(1, 3), the other one written", x.get(1, 3), 99);
        CHECKS.due("get(0, 3), the other one written", x.get(0, 3), 3);
    }

    private static void lastCallAnswers() {
        SharedLeaves x = new SharedLeaves();
        x.make(16, 0);
        for (int call = 2; call <= 511; call++) {
            x.set(0, call % 16, call % 2);
        }
        CHECKS.due("made(), the 512th call", x.made(), 1);
        SharedLeaves y = new SharedLeaves();
        for (int call = 1; call <= 510; call += 2) {
            y.make(16, call);
            y.release(0);
        }
        y.make(16, 5);
        CHECKS.due("sum, the 512th call", y.sum(0, 0, 16), 80);
    }

    private static void lastOfDearCallsAnswers() {
        SharedLeaves x = Samples.halfFull();
        for (int round = 1; round <= 250; round++) {
            x.slice(0, 1, 4096);
            x.release(1);
        }
        CHECKS.due("made(), the 511th call", x.made(), 256 + 250 * 255);
        CHECKS.due("used(), the 512th call", x.used(), 256);
    }

    private static void everyCallOn(int a) {
        SharedLeaves x = Samples.allThere();
        x.release(a);
        x.release(7);
        CHECKS.due("make", x.make(40, 2), Math.min(a, 7));
        CHECKS.due("make", x.make(40, 2), Math.max(a, 7));
        x.set(a, 39, 3);
        x.fill(a, 0, 16, 4);
        x.move(a, 39, 40, 0);
        x.sort(a);
        x.reverse(a);
        CHECKS.due("length", x.length(a), 40);
        CHECKS.due("get", x.get(a, 0), 4);
        CHECKS.due("sum", x.sum(a, 0, 40), 4 * 15 + 3 * 2 + 2 * 23);
        CHECKS.due("bound", x.bound(a, 0, 40, 0), 2);
        CHECKS.due("find", x.find(a, 0, 3), 15);
        CHECKS.due("difference", x.difference(a, 7), 0);
        CHECKS.due("leaf", x.leaf(a, 0), 1);
        CHECKS.due("alike", x.alike(a, 0, a, 0), true);
        x.release(7);
        CHECKS.due("copy", x.copy(a), 7);
        x.release(7);
        CHECKS.due("slice", x.slice(a, 0, 16), 7);
        x.release(7);
        CHECKS.due("join", x.join(a, a), 7);
        CHECKS.due("release", x.release(a), true);
    }

    private static void lengthsThatCanBe() {
        SharedLeaves x = new SharedLeaves();
        x.make(0, 1);
        x.make(4096, 1);
        x.slice(1, 5, 5);
        x.slice(1, 0, 4096);
        x.join(0, 1);
        int[] lengths = {0, 4096, 0, 4096, 4096};
        for (int a = 0; a < lengths.length; a++) {
            CHECKS.due("length(" + a + ")", x.length(a), lengths[a]);
        }
    }

    private static void valuesThatCanBe() {
        SharedLeaves x = new SharedLeaves();
        x.make(32, Edges.LEAST_INT);
        x.set(0, 31, Edges.GREATEST_INT);
        x.copy(0);
        for (int a = 0; a < 2; a++) {
            CHECKS.due("in a CONSTANT leaf of " + a, x.get(a, 0), Edges.LEAST_INT);
            CHECKS.due("in an OWN leaf of " + a, x.get(a, 30), Edges.LEAST_INT);
            CHECKS.due("the last of " + a, x.get(a, 31), Edges.GREATEST_INT);
        }
    }

    private static void leafOfValues(int k) {
        for (int i : new int[] {16 * k, 16 * k + 15}) {
            SharedLeaves x = new SharedLeaves();
            x.make(4096, 0);
            x.set(0, i, 1);
            CHECKS.due("set " + i + ": leaf(0, " + k + ")", x.leaf(0, k), 1);
            int beside = k == 0 ? 1 : k - 1;
            CHECKS.due("set " + i + ": leaf(0, " + beside + ")", x.leaf(0, beside), 0);
        }
        int outside = k == 0 ? 16 : 16 * k - 1;
        SharedLeaves y = new SharedLeaves();
        y.make(4096, 0);
        y.set(0, outside, 1);
        CHECKS.due("set " + outside + ": leaf(0, " + k + ")", y.leaf(0, k), 0);
    }

    private static void lastLeafHas(int n) {
        SharedLeaves x = new SharedLeaves();
        x.make(16 + n, 1);
        x.fill(0, 16, 16 + n, 2);
        CHECKS.due("leaf(0, 1), all of it filled", x.leaf(0, 1), 0);
        CHECKS.due("leaf(0, 2)", x.leaf(0, 2), NONE);
        CHECKS.due("made()", x.made(), 0);
        x.set(0, 15 + n, 3);
        CHECKS.due("leaf(0, 1), the last set", x.leaf(0, 1), n == 1 ? 0 : 1);
        CHECKS.due("sum", x.sum(0, 0, 16 + n), 16 + 2 * n + 1);
    }

    private static void singleValueIsConstant() {
        SharedLeaves x = new SharedLeaves();
        x.make(1, 1);
        x.set(0, 0, 2);
        CHECKS.due("leaf(0, 0)", x.leaf(0, 0), 0);
        x.slice(0, 0, 1);
        CHECKS.due("leaf(1, 0)", x.leaf(1, 0), 0);
        CHECKS.due("made()", x.made(), 0);
    }

    private static void placesThereAre() {
        SharedLeaves x = Samples.full();
        CHECKS.due("used()", x.used(), 512);
        x.make(16, 0);
        CHECKS.stateRefused("set(3, 0, 1), the 513th", () -> x.set(3, 0, 1));
    }

    private static void sharedWithinOneArray() {
        SharedLeaves x = Samples.counting(16);
        x.join(0, 0);
        x.release(0);
        CHECKS.due("leaf(1, 0)", x.leaf(1, 0), 2);
        CHECKS.due("leaf(1, 1)", x.leaf(1, 1), 2);
        CHECKS.due("used()", x.used(), 1);
        x.set(1, 0, 5);
        CHECKS.due("leaf(1, 0), written", x.leaf(1, 0), 1);
        CHECKS.due("leaf(1, 1), the other one written", x.leaf(1, 1), 1);
    }

    private static void sharedByAllArrays() {
        SharedLeaves x = Samples.counting(16);
        for (int a = 1; a <= 15; a++) {
            CHECKS.due("copy(0)", x.copy(0), a);
        }
        CHECKS.due("leaf(15, 0)", x.leaf(15, 0), 2);
        CHECKS.due("used()", x.used(), 1);
        for (int a = 0; a < 14; a++) {
            x.release(a);
        }
        CHECKS.due("leaf(15, 0), of two arrays", x.leaf(15, 0), 2);
        x.release(14);
        CHECKS.due("leaf(15, 0), of one array", x.leaf(15, 0), 1);
    }

    private static void goneWithTheLastArray() {
        SharedLeaves x = Samples.counting(16);
        x.copy(0);
        x.release(0);
        CHECKS.due("used() with the copy", x.used(), 1);
        x.release(1);
        CHECKS.due("used() without", x.used(), 0);
        CHECKS.due("made()", x.made(), 1);
    }

    private static void goneWithTheLastChange() {
        SharedLeaves x = Samples.counting(16);
        x.copy(0);
        x.fill(0, 0, 16, 1);
        CHECKS.due("used() with the copy", x.used(), 1);
        x.fill(1, 0, 16, 1);
        CHECKS.due("used() without", x.used(), 0);
        CHECKS.due("made()", x.made(), 1);
    }

    private static void newOfOneNumber() {
        SharedLeaves x = new SharedLeaves();
        x.make(40, 6);
        x.slice(0, 3, 40);
        x.join(1, 1);
        CHECKS.due("leaf(1, 0)", x.leaf(1, 0), 0);
        CHECKS.due("leaf(1, 2)", x.leaf(1, 2), 0);
        CHECKS.due("leaf(2, 2)", x.leaf(2, 2), 0);
        CHECKS.due("sum", x.sum(2, 0, 74), 6 * 74);
        CHECKS.due("made()", x.made(), 0);
    }

    private static void newOfSeveralNumbers() {
        SharedLeaves x = Samples.counting(20);
        x.slice(0, 1, 17);
        x.slice(0, 1, 17);
        CHECKS.due("difference(1, 2)", x.difference(1, 2), NONE);
        CHECKS.due("alike(1, 0, 2, 0)", x.alike(1, 0, 2, 0), false);
        CHECKS.due("leaf(2, 0)", x.leaf(2, 0), 1);
        CHECKS.due("made()", x.made(), 4);
    }

    private static void sameValuesStayConstant() {
        SharedLeaves x = new SharedLeaves();
        x.make(32, 6);
        x.set(0, 0, 6);
        x.fill(0, 3, 20, 6);
        x.move(0, 0, 16, 5);
        CHECKS.due("leaf(0, 0)", x.leaf(0, 0), 0);
        CHECKS.due("made()", x.made(), 0);
        CHECKS.due("sum", x.sum(0, 0, 32), 192);
    }

    private static void sameValuesStayOwn() {
        SharedLeaves x = Samples.counting(32);
        x.set(0, 5, 5);
        x.sort(0);
        x.move(0, 3, 20, 3);
        CHECKS.due("leaf(0, 0)", x.leaf(0, 0), 1);
        CHECKS.due("made()", x.made(), 2);
        CHECKS.due("sum", x.sum(0, 0, 32), 496);
    }

    private static void sameValuesStayShared() {
        SharedLeaves x = Samples.counting(32);
        x.copy(0);
        x.set(1, 5, 5);
        x.sort(1);
        x.fill(1, 16, 17, 16);
        for (int k = 0; k < 2; k++) {
            CHECKS.due("alike(0, " + k + ", 1, " + k + ")", x.alike(0, k, 1, k), true);
        }
        CHECKS.due("made()", x.made(), 2);
    }

    private static void sameFewValuesStay() {
        SharedLeaves x = Samples.counting(20);
        x.copy(0);
        Samples.workOnOthers(x);
        x.set(1, 19, 19);
        x.sort(1);
        x.move(1, 16, 20, 16);
        CHECKS.due("alike(0, 1, 1, 1)", x.alike(0, 1, 1, 1), true);
        CHECKS.due("made()", x.made(), 2);
    }

    private static void constantFromConstant() {
        SharedLeaves x = new SharedLeaves();
        x.make(16, 6);
        x.fill(0, 0, 16, 7);
        CHECKS.due("leaf(0, 0)", x.leaf(0, 0), 0);
        CHECKS.due("get(0, 15)", x.get(0, 15), 7);
        CHECKS.due("made()", x.made(), 0);
    }

    private static void constantFromOwn() {
        SharedLeaves x = Samples.counting(16);
        x.fill(0, 0, 16, 7);
        CHECKS.due("leaf(0, 0)", x.leaf(0, 0), 0);
        CHECKS.due("get(0, 15)", x.get(0, 15), 7);
        CHECKS.due("used()", x.used(), 0);
        CHECKS.due("made()", x.made(), 1);
    }

    private static void constantFromShared() {
        SharedLeaves x = Samples.counting(16);
        x.copy(0);
        x.fill(1, 0, 16, 7);
        CHECKS.due("leaf(1, 0)", x.leaf(1, 0), 0);
        CHECKS.due("leaf(0, 0)", x.leaf(0, 0), 1);
        CHECKS.due("get(0, 15)", x.get(0, 15), 15);
        CHECKS.due("made()", x.made(), 1);
    }

    private static void ownBecomesItself() {
        SharedLeaves x = Samples.counting(16);
        x.reverse(0);
        x.set(0, 0, 99);
        CHECKS.due("leaf(0, 0)", x.leaf(0, 0), 1);
        CHECKS.due("get(0, 0)", x.get(0, 0), 99);
        CHECKS.due("get(0, 15)", x.get(0, 15), 0);
        CHECKS.due("used()", x.used(), 1);
        CHECKS.due("made()", x.made(), 1);
    }

    private static void newFromShared() {
        SharedLeaves x = Samples.counting(16);
        x.copy(0);
        x.copy(0);
        x.set(0, 0, 99);
        CHECKS.due("leaf(0, 0)", x.leaf(0, 0), 1);
        CHECKS.due("alike(0, 0, 1, 0)", x.alike(0, 0, 1, 0), false);
        CHECKS.due("alike(1, 0, 2, 0)", x.alike(1, 0, 2, 0), true);
        CHECKS.due("made()", x.made(), 2);
    }

    private static void newFromConstant() {
        SharedLeaves x = new SharedLeaves();
        x.make(16, 6);
        x.set(0, 15, 7);
        CHECKS.due("leaf(0, 0)", x.leaf(0, 0), 1);
        CHECKS.due("used()", x.used(), 1);
        CHECKS.due("made()", x.made(), 1);
    }

    private static void sharedBeforeTheCall() {
        SharedLeaves x = Samples.counting(16);
        x.join(0, 0);
        x.release(0);
        x.reverse(1);
        CHECKS.due("made()", x.made(), 3);
        CHECKS.due("used()", x.used(), 2);
        CHECKS.due("alike(1, 0, 1, 1)", x.alike(1, 0, 1, 1), false);
    }

    private static void sharedUntilTheCall() {
        SharedLeaves x = Samples.counting(16);
        x.join(0, 0);
        x.release(0);
        x.fill(1, 0, 20, 7);
        CHECKS.due("leaf(1, 0)", x.leaf(1, 0), 0);
        CHECKS.due("leaf(1, 1)", x.leaf(1, 1), 1);
        CHECKS.due("made(), leaf 1 was SHARED before", x.made(), 2);
        CHECKS.due("used()", x.used(), 1);
        x.set(1, 31, 99);
        CHECKS.due("made(), leaf 1 is SHARED no more", x.made(), 2);
    }

    private static void changedLeafByLeaf() {
        SharedLeaves x = Samples.counting(80);
        x.slice(0, 16, 32);
        x.fill(0, 48, 64, 7);
        x.move(0, 64, 80, 48);
        CHECKS.due("made() before", x.made(), 6);
        x.fill(0, 8, 56, 7);
        int[] kinds = {1, 0, 0, 1, 1};
        for (int k = 0; k < 5; k++) {
            CHECKS.due("leaf(0, " + k + ")", x.leaf(0, k), kinds[k]);
        }
        CHECKS.due("leaf(1, 0)", x.leaf(1, 0), 1);
        CHECKS.due("made()", x.made(), 6);
        CHECKS.due("used()", x.used(), 4);
    }
}
