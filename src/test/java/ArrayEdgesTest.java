/** The boundaries of promises 1 to 6 and 13, a test for each sentence that names one. */
public final class ArrayEdgesTest {
    private static final Checks CHECKS = new Checks();
    private static final Edges EDGES = new Edges(CHECKS);
    private static final int NONE = SharedLeaves.NONE;

    public static void main(String[] args) {
        newObject();
        make();
        copy();
        slice();
        join();
        release();
        length();
        CHECKS.end();
    }

    private static void newObject() {
        CHECKS.sentence("1: no arrays", ArrayEdgesTest::newHasNoArrays);
        CHECKS.sentence("1: no arrays, so calls on one are refused", ArrayEdgesTest::newRefusesCallsOnArrays);
        CHECKS.sentence("1: no arrays, so no leaves", ArrayEdgesTest::newHasNoLeaves);
        CHECKS.sentence("1: a new object beside a used one", ArrayEdgesTest::newBesideAnother);
    }

    private static void make() {
        CHECKS.sentence("2: n isn't 0 .. 4096: below", () -> makeRefusesLengths(-1, -16, Edges.LEAST_INT));
        CHECKS.sentence("2: n isn't 0 .. 4096: above", () -> makeRefusesLengths(4097, 4112, 8192, Edges.GREATEST_INT));
        CHECKS.sentence("2: n is 0, the first", () -> makeHas(0, 7));
        CHECKS.sentence("2: n is 4096, the last", () -> makeHas(4096, 7));
        CHECKS.sentence("2: a value: the least int", () -> makeHas(17, Edges.LEAST_INT));
        CHECKS.sentence("2: a value: the greatest int", () -> makeHas(17, Edges.GREATEST_INT));
        CHECKS.sentence("2: its leaves CONSTANT", ArrayEdgesTest::makeHasConstantLeavesAlone);
        CHECKS.sentence("2: the least that wasn't there: first to last", ArrayEdgesTest::makeCountsUpTo15);
        CHECKS.sentence("2: the least that wasn't there: after releases", ArrayEdgesTest::makeTakesTheLeastReleased);
        CHECKS.sentence("2: all are there", () -> refusedWithAllThere("make", x -> x.make(0, 0)));
        CHECKS.sentence("2: all are there but one", ArrayEdgesTest::makeWithOneLeft);
        CHECKS.sentence("2: no room is no cause to refuse", ArrayEdgesTest::makeWithPlacesAllTaken);
    }

    private static void copy() {
        CHECKS.sentence("3: there is no such array", () -> EDGES.noSuchArray("copy", SharedLeaves::copy));
        CHECKS.sentence("3: all are there", () -> refusedWithAllThere("copy", x -> x.copy(3)));
        CHECKS.sentence("3: all are there but one", ArrayEdgesTest::copyWithOneLeft);
        CHECKS.sentence("3: with the leaves: the first, and the last with fewer values", ArrayEdgesTest::copyHasAllLeaves);
        CHECKS.sentence("3: with the values: none", ArrayEdgesTest::copyOfNoValues);
        CHECKS.sentence("3: with the values: 4096", ArrayEdgesTest::copyOf4096);
        CHECKS.sentence("3: no room is no cause to refuse", ArrayEdgesTest::copyWithPlacesAllTaken);
    }

    private static void slice() {
        Edges.OnRange slice = (x, from, to) -> x.slice(0, from, to);
        CHECKS.sentence("4: there is no such array", () -> EDGES.noSuchArray("slice", (x, a) -> x.slice(a, 0, 0)));
        CHECKS.sentence("4: not 0 <= from", () -> EDGES.fromBelow0("slice", slice));
        CHECKS.sentence("4: not from <= to", () -> EDGES.fromAboveTo("slice", slice));
        CHECKS.sentence("4: not to <= its length", () -> EDGES.toBeyondTheLength("slice", slice));
        CHECKS.sentence("4: not to <= its length: 4097", ArrayEdgesTest::sliceBeyond4096);
        CHECKS.sentence("4: not to <= its length: no values", ArrayEdgesTest::sliceOfNoValues);
        CHECKS.sentence("4: 0 <= from <= to <= its length: all", ArrayEdgesTest::sliceOfAll);
        CHECKS.sentence("4: 0 <= from <= to <= its length: the first and the last", ArrayEdgesTest::sliceOfOne);
        CHECKS.sentence("4: values from .. to - 1: none", () -> EDGES.emptyRanges(ArrayEdgesTest::sliceOfNone));
        CHECKS.sentence("4: if from is a multiple of 16", ArrayEdgesTest::sliceFromAMultiple);
        CHECKS.sentence("4: if from isn't a multiple of 16", ArrayEdgesTest::sliceFromBesideAMultiple);
        CHECKS.sentence("4: the leaf has 16 values in both: fewer in a's", ArrayEdgesTest::sliceOfAPartLeaf);
        CHECKS.sentence("4: the leaf has 16 values in both: fewer in its own", ArrayEdgesTest::sliceIntoAPartLeaf);
        CHECKS.sentence("4: a's leaf from / 16 + k: the last of 256", ArrayEdgesTest::sliceOfTheLastLeaf);
        CHECKS.sentence("4: else a NEW one: of one number", ArrayEdgesTest::sliceNewOfOneNumber);
        CHECKS.sentence("4: all are there", () -> refusedWithAllThere("slice", x -> x.slice(5, 0, 0)));
        CHECKS.sentence("4: all are there but one", ArrayEdgesTest::sliceWithOneLeft);
    }

    private static void join() {
        CHECKS.sentence("5: there is no such array a", () -> EDGES.noSuchArray("join a", (x, a) -> x.join(a, 0)));
        CHECKS.sentence("5: there is no such array b", () -> EDGES.noSuchArray("join b", (x, b) -> x.join(0, b)));
        CHECKS.sentence("5: there are no such arrays", () -> EDGES.noSuchArray("join both", (x, a) -> x.join(a, a)));
        CHECKS.sentence("5: more than 4096 values", ArrayEdgesTest::joinBeyond4096);
        CHECKS.sentence("5: 4096 values", ArrayEdgesTest::joinTo4096);
        CHECKS.sentence("5: a's values and then b's: a has none", ArrayEdgesTest::joinBehindNone);
        CHECKS.sentence("5: a's values and then b's: b has none", ArrayEdgesTest::joinBeforeNone);
        CHECKS.sentence("5: a's values and then b's: none at all", ArrayEdgesTest::joinOfNone);
        CHECKS.sentence("5: a's values and then b's: the same array", ArrayEdgesTest::joinWithItself);
        CHECKS.sentence("5: b's leaves follow, if a's length is a multiple of 16", ArrayEdgesTest::joinAtAMultiple);
        CHECKS.sentence("5: else cut into NEW ones: a leaf less one", () -> joinBesideAMultiple(15, 0));
        CHECKS.sentence("5: else cut into NEW ones: a leaf and one", () -> joinBesideAMultiple(17, 1));
        CHECKS.sentence("5: NEW ones: of one number", ArrayEdgesTest::joinNewOfOneNumber);
        CHECKS.sentence("5: all are there", () -> refusedWithAllThere("join", x -> x.join(0, 0)));
        CHECKS.sentence("5: all are there but one", ArrayEdgesTest::joinWithOneLeft);
    }

    private static void release() {
        CHECKS.sentence("6: false if it isn't there", ArrayEdgesTest::releaseOfNone);
        CHECKS.sentence("6: there no more: a second time", ArrayEdgesTest::releaseTwice);
        CHECKS.sentence("6: an array: the first and the last", ArrayEdgesTest::releaseFirstAndLast);
        CHECKS.sentence("6: there no more: no call finds it", ArrayEdgesTest::releasedIsFoundByNoCall);
        CHECKS.sentence("6: there no more: its places, all taken before", ArrayEdgesTest::releaseWithPlacesAllTaken);
        CHECKS.sentence("6: there no more: its number begins anew", ArrayEdgesTest::releasedNumberBeginsAnew);
    }

    private static void length() {
        CHECKS.sentence("13: NONE if there is none such", ArrayEdgesTest::lengthOfNone);
        CHECKS.sentence("13: how many values: 0 and 4096", ArrayEdgesTest::lengthFirstAndLast);
    }

    private static void newHasNoArrays() {
        SharedLeaves x = new SharedLeaves();
        for (int a = -1; a <= 16; a++) {
            CHECKS.due("length(" + a + ")", x.length(a), NONE);
            CHECKS.due("release(" + a + ")", x.release(a), false);
        }
        CHECKS.due("make(1, 1)", x.make(1, 1), 0);
    }

    private static void newRefusesCallsOnArrays() {
        SharedLeaves x = new SharedLeaves();
        CHECKS.argumentRefused("copy(0)", () -> x.copy(0));
        CHECKS.argumentRefused("slice(0, 0, 0)", () -> x.slice(0, 0, 0));
        CHECKS.argumentRefused("join(0, 0)", () -> x.join(0, 0));
        CHECKS.argumentRefused("get(0, 0)", () -> x.get(0, 0));
        CHECKS.argumentRefused("set(0, 0, 0)", () -> x.set(0, 0, 0));
        CHECKS.argumentRefused("fill(0, 0, 0, 0)", () -> x.fill(0, 0, 0, 0));
        CHECKS.argumentRefused("move(0, 0, 0, 0)", () -> x.move(0, 0, 0, 0));
        CHECKS.argumentRefused("sort(0)", () -> x.sort(0));
        CHECKS.argumentRefused("reverse(0)", () -> x.reverse(0));
        CHECKS.argumentRefused("sum(0, 0, 0)", () -> x.sum(0, 0, 0));
        CHECKS.argumentRefused("bound(0, 0, 0, 0)", () -> x.bound(0, 0, 0, 0));
        CHECKS.argumentRefused("find(0, 0, 0)", () -> x.find(0, 0, 0));
        CHECKS.argumentRefused("difference(0, 0)", () -> x.difference(0, 0));
    }

    private static void newHasNoLeaves() {
        SharedLeaves x = new SharedLeaves();
        CHECKS.due("used()", x.used(), 0);
        CHECKS.due("made()", x.made(), 0);
        CHECKS.due("leaf(0, 0)", x.leaf(0, 0), NONE);
        CHECKS.due("alike(0, 0, 0, 0)", x.alike(0, 0, 0, 0), false);
    }

    private static void newBesideAnother() {
        SharedLeaves used = Samples.counting(40);
        SharedLeaves x = new SharedLeaves();
        CHECKS.due("length(0)", x.length(0), NONE);
        CHECKS.due("make(16, 5)", x.make(16, 5), 0);
        x.set(0, 0, 6);
        CHECKS.due("used()", x.used(), 1);
        CHECKS.due("the other's used()", used.used(), 3);
        CHECKS.due("the other's sum", used.sum(0, 0, 40), 780);
    }

    private static void makeRefusesLengths(int... lengths) {
        SharedLeaves x = Samples.counting(20);
        EDGES.asBefore("make refused", x, () -> {
            for (int n : lengths) {
                CHECKS.argumentRefused("make(" + n + ", 0)", () -> x.make(n, 0));
            }
        });
        CHECKS.due("make(1, 1) then", x.make(1, 1), 1);
    }

    private static void makeHas(int n, int v) {
        SharedLeaves x = new SharedLeaves();
        CHECKS.due("make", x.make(n, v), 0);
        CHECKS.due("length", x.length(0), n);
        CHECKS.due("sum", x.sum(0, 0, n), (long) v * n);
        for (int i = 0; i < n; i += 16) {
            CHECKS.due("get(0, " + i + ")", x.get(0, i), v);
        }
        CHECKS.argumentRefused("get behind the last", () -> x.get(0, n));
    }

    private static void makeHasConstantLeavesAlone() {
        SharedLeaves x = new SharedLeaves();
        int[] lengths = {0, 1, 15, 16, 17, 4095, 4096};
        int[] leaves = {0, 1, 1, 1, 2, 256, 256};
        for (int a = 0; a < lengths.length; a++) {
            x.make(lengths[a], a);
            for (int k = leaves[a] - 1; k >= 0; k -= 51) {
                CHECKS.due("leaf(" + a + ", " + k + ")", x.leaf(a, k), 0);
            }
            CHECKS.due("leaf behind the last of " + lengths[a], x.leaf(a, leaves[a]), NONE);
        }
        CHECKS.due("used()", x.used(), 0);
        CHECKS.due("made()", x.made(), 0);
    }

    private static void makeCountsUpTo15() {
        SharedLeaves x = new SharedLeaves();
        for (int a = 0; a <= 15; a++) {
            CHECKS.due("make number " + a, x.make(a, a), a);
        }
        CHECKS.due("sum of the first", x.sum(0, 0, 0), 0);
        CHECKS.due("sum of the last", x.sum(15, 0, 15), 225);
    }

    private static void makeTakesTheLeastReleased() {
        SharedLeaves x = Samples.allThere();
        for (int a : new int[] {15, 0, 7}) {
            x.release(a);
        }
        CHECKS.due("the first", x.make(1, 1), 0);
        CHECKS.due("the one between", x.make(1, 1), 7);
        CHECKS.due("the last", x.make(1, 1), 15);
    }

    private interface NewArray {
        int in(SharedLeaves x);
    }

    private static void refusedWithAllThere(String name, NewArray call) {
        SharedLeaves x = Samples.allThere();
        EDGES.asBefore(name + " refused", x, () -> CHECKS.stateRefused(name, () -> call.in(x)));
        x.release(6);
        CHECKS.due(name + " with one released", call.in(x), 6);
        CHECKS.stateRefused(name + " once more", () -> call.in(x));
    }

    private static SharedLeaves allButTheLast() {
        SharedLeaves x = Samples.counting(20);
        for (int a = 1; a <= 14; a++) {
            x.make(3, a);
        }
        return x;
    }

    private static void makeWithOneLeft() {
        SharedLeaves x = allButTheLast();
        CHECKS.due("make(4096, 3)", x.make(4096, 3), 15);
        CHECKS.due("get(15, 4095)", x.get(15, 4095), 3);
        CHECKS.stateRefused("make(0, 0)", () -> x.make(0, 0));
    }

    private static void makeWithPlacesAllTaken() {
        SharedLeaves x = Samples.full();
        CHECKS.due("make(4096, 3)", x.make(4096, 3), 3);
        CHECKS.due("sum", x.sum(3, 0, 4096), 12288);
        CHECKS.due("used()", x.used(), 512);
    }

    private static void copyWithOneLeft() {
        SharedLeaves x = allButTheLast();
        CHECKS.due("copy(0)", x.copy(0), 15);
        CHECKS.due("difference(0, 15)", x.difference(0, 15), NONE);
        CHECKS.stateRefused("copy(0) once more", () -> x.copy(0));
        CHECKS.stateRefused("copy(15)", () -> x.copy(15));
    }

    private static void copyHasAllLeaves() {
        SharedLeaves x = Samples.counting(50);
        x.fill(0, 16, 32, 4);
        CHECKS.due("copy(0)", x.copy(0), 1);
        boolean[] own = {true, false, true, true};
        for (int k = 0; k < 4; k++) {
            CHECKS.due("alike leaf " + k, x.alike(0, k, 1, k), own[k]);
            CHECKS.due("leaf(1, " + k + ")", x.leaf(1, k), own[k] ? 2 : 0);
        }
        CHECKS.due("used()", x.used(), 3);
        CHECKS.due("made()", x.made(), 4);
        CHECKS.due("difference(0, 1)", x.difference(0, 1), NONE);
    }

    private static void copyOfNoValues() {
        SharedLeaves x = Edges.twoThere();
        CHECKS.due("copy(2)", x.copy(2), 1);
        CHECKS.due("length(1)", x.length(1), 0);
        CHECKS.due("leaf(1, 0)", x.leaf(1, 0), NONE);
        CHECKS.due("difference(1, 2)", x.difference(1, 2), NONE);
    }

    private static void copyOf4096() {
        SharedLeaves x = Samples.halfFull();
        CHECKS.due("copy(0)", x.copy(0), 1);
        CHECKS.due("length(1)", x.length(1), 4096);
        CHECKS.due("difference(0, 1)", x.difference(0, 1), NONE);
        CHECKS.due("alike the first", x.alike(0, 0, 1, 0), true);
        CHECKS.due("alike the last", x.alike(0, 255, 1, 255), true);
        CHECKS.due("made()", x.made(), 256);
    }

    private static void copyWithPlacesAllTaken() {
        SharedLeaves x = Samples.full();
        CHECKS.due("copy(1)", x.copy(1), 3);
        CHECKS.due("difference(1, 3)", x.difference(1, 3), NONE);
        CHECKS.due("used()", x.used(), 512);
        CHECKS.due("made()", x.made(), 512);
    }

    private static void sliceBeyond4096() {
        SharedLeaves x = Samples.halfFull();
        EDGES.asBefore("slice refused", x, () -> {
            CHECKS.argumentRefused("slice(0, 0, 4097)", () -> x.slice(0, 0, 4097));
            CHECKS.argumentRefused("slice(0, 4097, 4097)", () -> x.slice(0, 4097, 4097));
        });
    }

    private static void sliceOfNoValues() {
        SharedLeaves x = Edges.twoThere();
        CHECKS.argumentRefused("slice(2, 0, 1)", () -> x.slice(2, 0, 1));
        CHECKS.argumentRefused("slice(2, 1, 1)", () -> x.slice(2, 1, 1));
        CHECKS.due("slice(2, 0, 0)", x.slice(2, 0, 0), 1);
        CHECKS.due("length(1)", x.length(1), 0);
    }

    private static void sliceOfAll() {
        SharedLeaves x = Samples.halfFull();
        CHECKS.due("slice(0, 0, 4096)", x.slice(0, 0, 4096), 1);
        CHECKS.due("difference(0, 1)", x.difference(0, 1), NONE);
        CHECKS.due("length(1)", x.length(1), 4096);
        CHECKS.due("alike the last", x.alike(0, 255, 1, 255), true);
        CHECKS.due("made()", x.made(), 256);
    }

    private static void sliceOfOne() {
        SharedLeaves x = Edges.twoThere();
        CHECKS.due("slice(0, 0, 1)", x.slice(0, 0, 1), 1);
        CHECKS.due("slice(0, 19, 20)", x.slice(0, 19, 20), 3);
        CHECKS.due("length(1)", x.length(1), 1);
        CHECKS.due("get(1, 0)", x.get(1, 0), 0);
        CHECKS.due("length(3)", x.length(3), 1);
        CHECKS.due("get(3, 0)", x.get(3, 0), 19);
    }

    private static void sliceOfNone(SharedLeaves x, int from, int to) {
        String call = "slice(0, " + from + ", " + to + ")";
        CHECKS.due(call, x.slice(0, from, to), 1);
        CHECKS.due(call + ": length(1)", x.length(1), 0);
        CHECKS.due(call + ": leaf(1, 0)", x.leaf(1, 0), NONE);
        CHECKS.due(call + ": made()", x.made(), 2);
    }

    private static void sliceFromAMultiple() {
        for (int from : new int[] {0, 16, 48}) {
            SharedLeaves x = Samples.counting(64);
            x.slice(0, from, 64);
            CHECKS.due("from " + from + ": made()", x.made(), 4);
            for (int k = 0; k < 4 - from / 16; k++) {
                CHECKS.due("from " + from + ": leaf " + k, x.alike(0, from / 16 + k, 1, k), true);
            }
        }
    }

    private static void sliceFromBesideAMultiple() {
        for (int from : new int[] {1, 8, 15, 17, 31}) {
            SharedLeaves x = Samples.counting(64);
            x.slice(0, from, from + 32);
            CHECKS.due("from " + from + ": made()", x.made(), 6);
            CHECKS.due("from " + from + ": leaf(1, 0)", x.leaf(1, 0), 1);
            CHECKS.due("from " + from + ": leaf(1, 1)", x.leaf(1, 1), 1);
            CHECKS.due("from " + from + ": get(1, 0)", x.get(1, 0), from);
            CHECKS.due("from " + from + ": get(1, 31)", x.get(1, 31), from + 31);
        }
    }

    private static void sliceOfAPartLeaf() {
        SharedLeaves x = Samples.counting(31);
        x.slice(0, 0, 31);
        CHECKS.due("the whole leaf", x.alike(0, 0, 1, 0), true);
        CHECKS.due("the part leaf", x.alike(0, 1, 1, 1), false);
        CHECKS.due("leaf(1, 1)", x.leaf(1, 1), 1);
        CHECKS.due("made()", x.made(), 3);
        CHECKS.due("difference(0, 1)", x.difference(0, 1), NONE);
    }

    private static void sliceIntoAPartLeaf() {
        SharedLeaves x = Samples.counting(64);
        x.slice(0, 16, 47);
        CHECKS.due("the whole leaf", x.alike(0, 1, 1, 0), true);
        CHECKS.due("the part leaf", x.alike(0, 2, 1, 1), false);
        CHECKS.due("leaf(1, 1)", x.leaf(1, 1), 1);
        CHECKS.due("made()", x.made(), 5);
        CHECKS.due("get(1, 30)", x.get(1, 30), 46);
    }

    private static void sliceOfTheLastLeaf() {
        SharedLeaves x = Samples.halfFull();
        CHECKS.due("slice(0, 4080, 4096)", x.slice(0, 4080, 4096), 1);
        CHECKS.due("alike(0, 255, 1, 0)", x.alike(0, 255, 1, 0), true);
        CHECKS.due("slice(0, 4081, 4096)", x.slice(0, 4081, 4096), 2);
        CHECKS.due("length(2)", x.length(2), 15);
        CHECKS.due("leaf(2, 0)", x.leaf(2, 0), 0);
    }

    private static void sliceNewOfOneNumber() {
        SharedLeaves x = new SharedLeaves();
        x.make(40, 3);
        x.set(0, 0, 1);
        x.set(0, 39, 2);
        x.slice(0, 1, 39);
        for (int k = 0; k < 3; k++) {
            CHECKS.due("leaf(1, " + k + ")", x.leaf(1, k), 0);
        }
        x.slice(0, 1, 40);
        CHECKS.due("leaf(2, 2)", x.leaf(2, 2), 1);
        CHECKS.due("made()", x.made(), 3);
    }

    private static void sliceWithOneLeft() {
        SharedLeaves x = allButTheLast();
        CHECKS.due("slice(0, 1, 20)", x.slice(0, 1, 20), 15);
        CHECKS.due("get(15, 18)", x.get(15, 18), 19);
        EDGES.asBefore("slice refused", x, () -> CHECKS.stateRefused("slice(0, 1, 20)", () -> x.slice(0, 1, 20)));
    }

    private static void joinBeyond4096() {
        SharedLeaves x = Samples.halfFull();
        x.make(1, 1);
        x.make(4080, 1);
        x.make(17, 1);
        EDGES.asBefore("join refused", x, () -> {
            CHECKS.argumentRefused("join(0, 1), 4097", () -> x.join(0, 1));
            CHECKS.argumentRefused("join(1, 0), 4097", () -> x.join(1, 0));
            CHECKS.argumentRefused("join(2, 3), 4097", () -> x.join(2, 3));
            CHECKS.argumentRefused("join(0, 0), 8192", () -> x.join(0, 0));
        });
    }

    private static void joinTo4096() {
        int[][] pairs = {{4096, 0}, {0, 4096}, {4095, 1}, {1, 4095}, {2048, 2048}};
        for (int[] pair : pairs) {
            SharedLeaves x = new SharedLeaves();
            x.make(pair[0], 3);
            x.make(pair[1], 5);
            String call = pair[0] + " and " + pair[1];
            CHECKS.due(call, x.join(0, 1), 2);
            CHECKS.due(call + ": length(2)", x.length(2), 4096);
            CHECKS.due(call + ": sum", x.sum(2, 0, 4096), 3L * pair[0] + 5L * pair[1]);
            CHECKS.due(call + ": the last", x.get(2, 4095), pair[1] == 0 ? 3 : 5);
            CHECKS.due(call + ": where b's begin", x.find(2, 0, 5), pair[1] == 0 ? NONE : pair[0]);
        }
    }

    private static void joinBehindNone() {
        SharedLeaves x = Edges.twoThere();
        CHECKS.due("join(2, 0)", x.join(2, 0), 1);
        CHECKS.due("difference(0, 1)", x.difference(0, 1), NONE);
        CHECKS.due("alike(0, 0, 1, 0)", x.alike(0, 0, 1, 0), true);
        CHECKS.due("alike(0, 1, 1, 1), fewer values", x.alike(0, 1, 1, 1), true);
        CHECKS.due("made()", x.made(), 2);
    }

    private static void joinBeforeNone() {
        SharedLeaves x = Edges.twoThere();
        CHECKS.due("join(0, 2)", x.join(0, 2), 1);
        CHECKS.due("difference(0, 1)", x.difference(0, 1), NONE);
        CHECKS.due("alike(0, 0, 1, 0)", x.alike(0, 0, 1, 0), true);
        CHECKS.due("alike(0, 1, 1, 1), fewer values", x.alike(0, 1, 1, 1), false);
        CHECKS.due("made()", x.made(), 3);
        SharedLeaves y = Samples.counting(32);
        y.make(0, 0);
        CHECKS.due("join(0, 1) of whole leaves", y.join(0, 1), 2);
        CHECKS.due("alike(0, 1, 2, 1)", y.alike(0, 1, 2, 1), true);
        CHECKS.due("made() of whole leaves", y.made(), 2);
    }

    private static void joinOfNone() {
        SharedLeaves x = Edges.twoThere();
        CHECKS.due("join(2, 2)", x.join(2, 2), 1);
        CHECKS.due("length(1)", x.length(1), 0);
        CHECKS.due("leaf(1, 0)", x.leaf(1, 0), NONE);
    }

    private static void joinWithItself() {
        SharedLeaves x = Samples.counting(32);
        CHECKS.due("join(0, 0)", x.join(0, 0), 1);
        CHECKS.due("length(1)", x.length(1), 64);
        CHECKS.due("alike(1, 0, 1, 2)", x.alike(1, 0, 1, 2), true);
        CHECKS.due("alike(1, 1, 1, 3)", x.alike(1, 1, 1, 3), true);
        CHECKS.due("made()", x.made(), 2);
        CHECKS.due("get(1, 32)", x.get(1, 32), 0);
        CHECKS.due("get(1, 63)", x.get(1, 63), 31);
    }

    private static void joinAtAMultiple() {
        for (int n : new int[] {16, 32}) {
            SharedLeaves x = Samples.counting(n);
            x.make(18, 7);
            x.set(1, 17, 8);
            x.join(0, 1);
            int last = n / 16 + 1;
            CHECKS.due(n + " before: made()", x.made(), n / 16 + 1);
            CHECKS.due(n + " before: a's first leaf", x.alike(0, 0, 2, 0), true);
            CHECKS.due(n + " before: a's last leaf", x.alike(0, last - 2, 2, last - 2), true);
            CHECKS.due(n + " before: b's CONSTANT leaf", x.leaf(2, last - 1), 0);
            CHECKS.due(n + " before: b's last leaf", x.alike(1, 1, 2, last), true);
            CHECKS.due(n + " before: get(2, " + n + ")", x.get(2, n), 7);
            CHECKS.due(n + " before: the last value", x.get(2, n + 17), 8);
        }
    }

    private static void joinBesideAMultiple(int n, int whole) {
        SharedLeaves x = Samples.counting(n);
        x.make(32, 50);
        for (int i = 0; i < 32; i++) {
            x.set(1, i, 50 + i);
        }
        int before = x.made();
        x.join(0, 1);
        int leaves = (n + 32 + 15) / 16;
        int single = (n + 32) % 16 == 1 ? 1 : 0;
        CHECKS.due("made() more", x.made() - before, leaves - whole - single);
        for (int k = 0; k < leaves - single; k++) {
            CHECKS.due("leaf(2, " + k + ")", x.leaf(2, k), k < whole ? 2 : 1);
        }
        CHECKS.due("b's leaves", x.leaf(1, 0) + x.leaf(1, 1), 2);
        CHECKS.due("a's last", x.get(2, n - 1), n - 1);
        CHECKS.due("b's first", x.get(2, n), 50);
        CHECKS.due("b's last", x.get(2, n + 31), 81);
    }

    private static void joinNewOfOneNumber() {
        SharedLeaves x = new SharedLeaves();
        x.make(15, 4);
        x.make(18, 4);
        x.set(1, 17, 5);
        x.join(0, 1);
        CHECKS.due("leaf(2, 0)", x.leaf(2, 0), 0);
        CHECKS.due("leaf(2, 1)", x.leaf(2, 1), 0);
        CHECKS.due("leaf(2, 2), a single value", x.leaf(2, 2), 0);
        CHECKS.due("get(2, 32)", x.get(2, 32), 5);
        CHECKS.due("made()", x.made(), 1);
    }

    private static void joinWithOneLeft() {
        SharedLeaves x = allButTheLast();
        CHECKS.due("join(0, 14)", x.join(0, 14), 15);
        CHECKS.due("get(15, 22)", x.get(15, 22), 14);
        EDGES.asBefore("join refused", x, () -> CHECKS.stateRefused("join(0, 14)", () -> x.join(0, 14)));
    }

    private static void releaseOfNone() {
        SharedLeaves x = Edges.twoThere();
        EDGES.asBefore("release of none", x, () -> {
            for (int a : Edges.NOT_THERE) {
                CHECKS.due("release(" + a + ")", x.release(a), false);
            }
        });
    }

    private static void releaseTwice() {
        SharedLeaves x = Samples.counting(20);
        x.copy(0);
        CHECKS.due("release(0)", x.release(0), true);
        EDGES.asBefore("release twice", x, () -> CHECKS.due("release(0) again", x.release(0), false));
        CHECKS.due("leaf(1, 0) is OWN still", x.leaf(1, 0), 1);
        CHECKS.due("used()", x.used(), 2);
    }

    private static void releaseFirstAndLast() {
        SharedLeaves x = Samples.allThere();
        CHECKS.due("release(0), of no values", x.release(0), true);
        CHECKS.due("release(15)", x.release(15), true);
        CHECKS.due("length(0)", x.length(0), NONE);
        CHECKS.due("length(15)", x.length(15), NONE);
        CHECKS.due("length(1)", x.length(1), 1);
        CHECKS.due("length(14)", x.length(14), 14);
    }

    private static void releasedIsFoundByNoCall() {
        SharedLeaves x = Samples.counting(20);
        x.release(0);
        CHECKS.due("length(0)", x.length(0), NONE);
        CHECKS.due("leaf(0, 0)", x.leaf(0, 0), NONE);
        CHECKS.due("alike(0, 0, 0, 0)", x.alike(0, 0, 0, 0), false);
        CHECKS.argumentRefused("get(0, 0)", () -> x.get(0, 0));
        CHECKS.argumentRefused("set(0, 0, 1)", () -> x.set(0, 0, 1));
        CHECKS.argumentRefused("copy(0)", () -> x.copy(0));
        CHECKS.argumentRefused("sum(0, 0, 0)", () -> x.sum(0, 0, 0));
        CHECKS.due("used()", x.used(), 0);
        CHECKS.due("made()", x.made(), 2);
    }

    private static void releaseWithPlacesAllTaken() {
        SharedLeaves x = Samples.full();
        x.copy(2);
        CHECKS.due("release(2), SHARED", x.release(2), true);
        CHECKS.due("used() with a copy there", x.used(), 512);
        CHECKS.due("release(3)", x.release(3), true);
        CHECKS.due("used() with no copy there", x.used(), 511);
        CHECKS.due("release(1)", x.release(1), true);
        CHECKS.due("used() without array 1", x.used(), 256);
        CHECKS.due("release(0)", x.release(0), true);
        CHECKS.due("used() without arrays", x.used(), 0);
        CHECKS.due("made()", x.made(), 512);
    }

    private static void releasedNumberBeginsAnew() {
        SharedLeaves x = Samples.counting(40);
        x.release(0);
        CHECKS.due("make(33, 6)", x.make(33, 6), 0);
        CHECKS.due("sum", x.sum(0, 0, 33), 198);
        for (int k = 0; k < 3; k++) {
            CHECKS.due("leaf(0, " + k + ")", x.leaf(0, k), 0);
        }
        CHECKS.due("leaf(0, 3)", x.leaf(0, 3), NONE);
        CHECKS.due("used()", x.used(), 0);
        x.set(0, 0, 7);
        CHECKS.due("made()", x.made(), 4);
    }

    private static void lengthOfNone() {
        SharedLeaves x = Edges.twoThere();
        for (int a : Edges.NOT_THERE) {
            CHECKS.due("length(" + a + ")", x.length(a), NONE);
        }
    }

    private static void lengthFirstAndLast() {
        SharedLeaves x = new SharedLeaves();
        x.make(0, 1);
        x.make(4096, 1);
        CHECKS.due("length(0)", x.length(0), 0);
        CHECKS.due("length(1)", x.length(1), 4096);
        x.slice(1, 4096, 4096);
        CHECKS.due("length(2)", x.length(2), 0);
    }
}
