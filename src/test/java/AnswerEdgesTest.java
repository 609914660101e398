/** The boundaries of promises 7 and 14 to 21, a test for each sentence that names one. */
public final class AnswerEdgesTest {
    private static final Checks CHECKS = new Checks();
    private static final Edges EDGES = new Edges(CHECKS);
    private static final int LEAST_INT = Edges.LEAST_INT;
    private static final int GREATEST_INT = Edges.GREATEST_INT;
    private static final int NONE = SharedLeaves.NONE;

    public static void main(String[] args) {
        CHECKS.sentence("NONE = -1", () -> CHECKS.due("NONE", NONE, -1));
        get();
        sum();
        bound();
        find();
        difference();
        counts();
        leaf();
        alike();
        CHECKS.end();
    }

    private static void get() {
        CHECKS.sentence("7: there is no such array", () -> EDGES.noSuchArray("get", (x, a) -> x.get(a, 0)));
        CHECKS.sentence("7: there is no such index: below", () -> getRefuses(0, -1, -16, LEAST_INT));
        CHECKS.sentence("7: there is no such index: above", () -> getRefuses(0, 20, 21, 31, 32, 4096, GREATEST_INT));
        CHECKS.sentence("7: there is no such index: no values", () -> getRefuses(2, 0, -1, 1));
        CHECKS.sentence("7: there is no such index: 4096", AnswerEdgesTest::getAt4096);
        CHECKS.sentence("7: a value: the first and the last", AnswerEdgesTest::getFirstAndLast);
        CHECKS.sentence("7: a value: the least and the greatest int", AnswerEdgesTest::getLeastAndGreatestInt);
    }

    private static void sum() {
        Edges.OnRange sum = (x, from, to) -> x.sum(0, from, to);
        CHECKS.sentence("14: there is no such array", () -> EDGES.noSuchArray("sum", (x, a) -> x.sum(a, 0, 0)));
        CHECKS.sentence("14: not 0 <= from", () -> EDGES.fromBelow0("sum", sum));
        CHECKS.sentence("14: not from <= to", () -> EDGES.fromAboveTo("sum", sum));
        CHECKS.sentence("14: not to <= its length", () -> EDGES.toBeyondTheLength("sum", sum));
        CHECKS.sentence("14: not to <= its length: 4097, no values", AnswerEdgesTest::sumBeyondTheEnd);
        CHECKS.sentence("14: of values from .. to - 1: none", AnswerEdgesTest::sumOfNone);
        CHECKS.sentence("14: of values from .. to - 1: no others", AnswerEdgesTest::sumHasNoOthers);
        CHECKS.sentence("14: the sum: just beyond an int", AnswerEdgesTest::sumJustBeyondAnInt);
        CHECKS.sentence("14: the sum: the greatest and the least there can be", AnswerEdgesTest::sumGreatestAndLeast);
    }

    private static void bound() {
        Edges.OnRange least = (x, from, to) -> x.bound(0, from, to, 0);
        Edges.OnRange greatest = (x, from, to) -> x.bound(0, from, to, 1);
        CHECKS.sentence("15: there is no such array", () -> EDGES.noSuchArray("bound", (x, a) -> x.bound(a, 0, 0, 0)));
        CHECKS.sentence("15: not 0 <= from, least", () -> EDGES.fromBelow0("bound", least));
        CHECKS.sentence("15: not 0 <= from, greatest", () -> EDGES.fromBelow0("bound", greatest));
        CHECKS.sentence("15: not from <= to, least", () -> EDGES.fromAboveTo("bound", least));
        CHECKS.sentence("15: not from <= to, greatest", () -> EDGES.fromAboveTo("bound", greatest));
        CHECKS.sentence("15: not to <= its length, least", () -> EDGES.toBeyondTheLength("bound", least));
        CHECKS.sentence("15: not to <= its length, greatest", () -> EDGES.toBeyondTheLength("bound", greatest));
        CHECKS.sentence("15: not to <= its length: 4097, no values", AnswerEdgesTest::boundBeyondTheEnd);
        CHECKS.sentence("15: another what: below", () -> boundRefuses(-1, LEAST_INT));
        CHECKS.sentence("15: another what: above", () -> boundRefuses(2, 3, GREATEST_INT));
        CHECKS.sentence("15: if there are none, the greatest int (0)", () -> boundOfNone(0, GREATEST_INT));
        CHECKS.sentence("15: if there are none, the least int (1)", () -> boundOfNone(1, LEAST_INT));
        CHECKS.sentence("15: of them: one", AnswerEdgesTest::boundOfOne);
        CHECKS.sentence("15: of them: no others", AnswerEdgesTest::boundHasNoOthers);
        CHECKS.sentence("15: the least: the least int, and the greatest", AnswerEdgesTest::boundLeastAtTheEnds);
        CHECKS.sentence("15: the greatest: the greatest int, and the least", AnswerEdgesTest::boundGreatestAtTheEnds);
    }

    private static void find() {
        CHECKS.sentence("16: there is no such array", () -> EDGES.noSuchArray("find", (x, a) -> x.find(a, 0, 0)));
        CHECKS.sentence("16: from isn't 0 .. its length: below", () -> findRefuses(0, -1, -16, LEAST_INT));
        CHECKS.sentence("16: from isn't 0 .. its length: above", () -> findRefuses(0, 21, 32, 4096, GREATEST_INT));
        CHECKS.sentence("16: from isn't 0 .. its length: no values", () -> findRefuses(2, 1, -1));
        CHECKS.sentence("16: from is its length", AnswerEdgesTest::findFromTheLength);
        CHECKS.sentence("16: from is 4096, and 4097", AnswerEdgesTest::findFrom4096);
        CHECKS.sentence("16: from .. on: from itself, none before it", AnswerEdgesTest::findFromItself);
        CHECKS.sentence("16: the least index", AnswerEdgesTest::findTheLeast);
        CHECKS.sentence("16: NONE: what lay where a leaf has fewer values", AnswerEdgesTest::findNothingBehindTheLast);
        CHECKS.sentence("16: there is v: the least and the greatest int", AnswerEdgesTest::findLeastAndGreatestInt);
    }

    private static void difference() {
        CHECKS.sentence("17: there is no such array a", () -> EDGES.noSuchArray("difference", (x, a) -> x.difference(a, 0)));
        CHECKS.sentence("17: there is no such array b", () -> EDGES.noSuchArray("difference", (x, b) -> x.difference(0, b)));
        CHECKS.sentence("17: there are no such arrays", () -> EDGES.noSuchArray("difference", (x, a) -> x.difference(a, a)));
        CHECKS.sentence("17: different values: the first and the last", AnswerEdgesTest::differenceFirstAndLast);
        CHECKS.sentence("17: different values: the least index", AnswerEdgesTest::differenceTheLeast);
        CHECKS.sentence("17: different values: the least and the greatest int", AnswerEdgesTest::differenceOfInts);
        CHECKS.sentence("17: or one has none", AnswerEdgesTest::differenceOfLengths);
        CHECKS.sentence("17: or one has none: no values at all", AnswerEdgesTest::differenceWithNone);
        CHECKS.sentence("17: NONE if they are alike", AnswerEdgesTest::differenceOfAlike);
    }

    private static void counts() {
        CHECKS.sentence("18: how many there are: 0 and 512", AnswerEdgesTest::usedFirstAndLast);
        CHECKS.sentence("18: how many there are: SHARED ones once", AnswerEdgesTest::usedCountsSharedOnce);
        CHECKS.sentence("19: ever made: more than there are places", AnswerEdgesTest::madeBeyondThePlaces);
        CHECKS.sentence("19: ever made: none by sharing or writing itself", AnswerEdgesTest::madeCountsNewOnesAlone);
        CHECKS.sentence("19: ever made: none by a refused call", AnswerEdgesTest::madeCountsNoRefusedOnes);
    }

    private static void leaf() {
        CHECKS.sentence("20: NONE if there is no such array", AnswerEdgesTest::leafOfNoArray);
        CHECKS.sentence("20: NONE if there is no such leaf: below", () -> leafIsNone(-1, -16, LEAST_INT));
        CHECKS.sentence("20: NONE if there is no such leaf: above", () -> leafIsNone(2, 3, 255, 256, GREATEST_INT));
        CHECKS.sentence("20: NONE if there is no such leaf: a wrap-around", AnswerEdgesTest::leafThatWraps);
        CHECKS.sentence("20: NONE if there is no such leaf: no values", AnswerEdgesTest::leafOfNoValues);
        CHECKS.sentence("20: leaf k: the first and the last of 256", AnswerEdgesTest::leafFirstAndLast);
        CHECKS.sentence("20: leaf k: the last with one value and with sixteen", AnswerEdgesTest::leafOfLengths);
        CHECKS.sentence("20: 0 CONSTANT, 1 OWN, 2 SHARED", AnswerEdgesTest::leafKinds);
    }

    private static void alike() {
        CHECKS.sentence("21: leaf j of a: no such array", () -> alikeIsFalse((x, n) -> x.alike(n, 0, 0, 0)));
        CHECKS.sentence("21: leaf k of b: no such array", () -> alikeIsFalse((x, n) -> x.alike(0, 0, n, 0)));
        CHECKS.sentence("21: leaves of no array at all", () -> alikeIsFalse((x, n) -> x.alike(n, 0, n, 0)));
        CHECKS.sentence("21: leaf j of a: no such leaf", AnswerEdgesTest::alikeOfNoLeaf);
        CHECKS.sentence("21: leaf k of b: a wrap-around", AnswerEdgesTest::alikeOfLeavesThatWrap);
        CHECKS.sentence("21: one OWN leaf: CONSTANT ones aren't", AnswerEdgesTest::alikeOfConstantOnes);
        CHECKS.sentence("21: one OWN leaf: two with the same values aren't", AnswerEdgesTest::alikeOfTwoWithTheSameValues);
        CHECKS.sentence("21: one OWN leaf: itself, the first and the last", AnswerEdgesTest::alikeFirstAndLast);
    }

    private static void getRefuses(int a, int... indexes) {
        SharedLeaves x = Edges.twoThere();
        for (int i : indexes) {
            CHECKS.argumentRefused("get(" + a + ", " + i + ")", () -> x.get(a, i));
        }
    }

    private static void getAt4096() {
        SharedLeaves x = Samples.halfFull();
        CHECKS.argumentRefused("get(0, 4096)", () -> x.get(0, 4096));
        CHECKS.due("get(0, 4080)", x.get(0, 4080), 1);
        CHECKS.due("get(0, 4095)", x.get(0, 4095), 0);
    }

    private static void getFirstAndLast() {
        SharedLeaves x = Edges.twoThere();
        CHECKS.due("get(0, 0)", x.get(0, 0), 0);
        CHECKS.due("get(0, 15)", x.get(0, 15), 15);
        CHECKS.due("get(0, 16)", x.get(0, 16), 16);
        CHECKS.due("get(0, 19)", x.get(0, 19), 19);
    }

    private static void getLeastAndGreatestInt() {
        SharedLeaves x = new SharedLeaves();
        x.make(17, LEAST_INT);
        x.set(0, 15, GREATEST_INT);
        CHECKS.due("get(0, 0)", x.get(0, 0), LEAST_INT);
        CHECKS.due("get(0, 15)", x.get(0, 15), GREATEST_INT);
        CHECKS.due("get(0, 16)", x.get(0, 16), LEAST_INT);
    }

    private static void sumBeyondTheEnd() {
        SharedLeaves x = Edges.twoThere();
        x.make(4096, 1);
        CHECKS.argumentRefused("sum(1, 0, 4097)", () -> x.sum(1, 0, 4097));
        CHECKS.argumentRefused("sum(1, 4097, 4097)", () -> x.sum(1, 4097, 4097));
        CHECKS.argumentRefused("sum(2, 0, 1)", () -> x.sum(2, 0, 1));
        CHECKS.argumentRefused("sum(2, 1, 1)", () -> x.sum(2, 1, 1));
    }

    private static void sumOfNone() {
        EDGES.emptyRanges((x, from, to) ->
            CHECKS.due("sum(0, " + from + ", " + to + ")", x.sum(0, from, to), 0));
        SharedLeaves y = Edges.twoThere();
        CHECKS.due("sum(2, 0, 0)", y.sum(2, 0, 0), 0);
        y.make(4096, 1);
        CHECKS.due("sum(1, 4096, 4096)", y.sum(1, 4096, 4096), 0);
    }

    private static void sumHasNoOthers() {
        SharedLeaves x = Edges.twoThere();
        CHECKS.due("sum(0, 0, 20)", x.sum(0, 0, 20), 190);
        CHECKS.due("sum(0, 1, 20)", x.sum(0, 1, 20), 190);
        CHECKS.due("sum(0, 0, 19)", x.sum(0, 0, 19), 171);
        CHECKS.due("sum(0, 19, 20)", x.sum(0, 19, 20), 19);
        CHECKS.due("sum(0, 15, 17)", x.sum(0, 15, 17), 31);
        CHECKS.due("sum(0, 15, 16)", x.sum(0, 15, 16), 15);
        CHECKS.due("sum(0, 16, 17)", x.sum(0, 16, 17), 16);
    }

    private static void sumJustBeyondAnInt() {
        SharedLeaves x = new SharedLeaves();
        x.make(2, GREATEST_INT);
        x.set(0, 1, 1);
        CHECKS.due("one above the greatest int", x.sum(0, 0, 2), 2147483648L);
        x.make(2, LEAST_INT);
        x.set(1, 1, -1);
        CHECKS.due("one below the least int", x.sum(1, 0, 2), -2147483649L);
        x.set(1, 1, GREATEST_INT);
        CHECKS.due("the least and the greatest int", x.sum(1, 0, 2), -1);
    }

    private static void sumGreatestAndLeast() {
        SharedLeaves x = new SharedLeaves();
        x.make(4096, GREATEST_INT);
        x.make(4096, LEAST_INT);
        CHECKS.due("sum(0, 0, 4096)", x.sum(0, 0, 4096), 8796093018112L);
        CHECKS.due("sum(1, 0, 4096)", x.sum(1, 0, 4096), -8796093022208L);
    }

    private static void boundBeyondTheEnd() {
        SharedLeaves x = Edges.twoThere();
        x.make(4096, 1);
        CHECKS.argumentRefused("bound(1, 0, 4097, 0)", () -> x.bound(1, 0, 4097, 0));
        CHECKS.argumentRefused("bound(1, 4097, 4097, 1)", () -> x.bound(1, 4097, 4097, 1));
        CHECKS.argumentRefused("bound(2, 0, 1, 0)", () -> x.bound(2, 0, 1, 0));
        CHECKS.argumentRefused("bound(2, 1, 1, 1)", () -> x.bound(2, 1, 1, 1));
    }

    private static void boundRefuses(int... whats) {
        SharedLeaves x = Edges.twoThere();
        for (int what : whats) {
            CHECKS.argumentRefused("bound(0, 0, 20, " + what + ")", () -> x.bound(0, 0, 20, what));
            CHECKS.argumentRefused("bound(0, 3, 3, " + what + ")", () -> x.bound(0, 3, 3, what));
            CHECKS.argumentRefused("bound(2, 0, 0, " + what + ")", () -> x.bound(2, 0, 0, what));
        }
    }

    private static void boundOfNone(int what, int want) {
        EDGES.emptyRanges((x, from, to) ->
            CHECKS.due("bound(0, " + from + ", " + to + ", " + what + ")", x.bound(0, from, to, what), want));
        SharedLeaves y = Edges.twoThere();
        CHECKS.due("bound(2, 0, 0, " + what + ")", y.bound(2, 0, 0, what), want);
        y.make(4096, 1);
        CHECKS.due("bound(1, 4096, 4096, " + what + ")", y.bound(1, 4096, 4096, what), want);
    }

    private static void boundOfOne() {
        SharedLeaves x = Edges.twoThere();
        for (int i : new int[] {0, 15, 16, 19}) {
            CHECKS.due("the least at " + i, x.bound(0, i, i + 1, 0), i);
            CHECKS.due("the greatest at " + i, x.bound(0, i, i + 1, 1), i);
        }
    }

    private static void boundHasNoOthers() {
        SharedLeaves x = Edges.twoThere();
        CHECKS.due("bound(0, 1, 19, 0)", x.bound(0, 1, 19, 0), 1);
        CHECKS.due("bound(0, 1, 19, 1)", x.bound(0, 1, 19, 1), 18);
        CHECKS.due("bound(0, 0, 20, 0)", x.bound(0, 0, 20, 0), 0);
        CHECKS.due("bound(0, 0, 20, 1)", x.bound(0, 0, 20, 1), 19);
        CHECKS.due("bound(0, 15, 17, 0)", x.bound(0, 15, 17, 0), 15);
        CHECKS.due("bound(0, 15, 17, 1)", x.bound(0, 15, 17, 1), 16);
    }

    private static void boundLeastAtTheEnds() {
        SharedLeaves x = new SharedLeaves();
        x.make(20, GREATEST_INT);
        CHECKS.due("of the greatest int alone", x.bound(0, 0, 20, 0), GREATEST_INT);
        x.set(0, 19, LEAST_INT);
        CHECKS.due("with the least int last", x.bound(0, 0, 20, 0), LEAST_INT);
        x.make(2, -1);
        CHECKS.due("of -1 alone", x.bound(1, 0, 2, 0), -1);
    }

    private static void boundGreatestAtTheEnds() {
        SharedLeaves x = new SharedLeaves();
        x.make(20, LEAST_INT);
        CHECKS.due("of the least int alone", x.bound(0, 0, 20, 1), LEAST_INT);
        x.set(0, 0, GREATEST_INT);
        CHECKS.due("with the greatest int first", x.bound(0, 0, 20, 1), GREATEST_INT);
        x.make(2, -1);
        CHECKS.due("of -1 alone", x.bound(1, 0, 2, 1), -1);
    }

    private static void findRefuses(int a, int... starts) {
        SharedLeaves x = Edges.twoThere();
        for (int from : starts) {
            CHECKS.argumentRefused("find(" + a + ", " + from + ", 0)", () -> x.find(a, from, 0));
        }
    }

    private static void findFromTheLength() {
        SharedLeaves x = Edges.twoThere();
        CHECKS.due("find(0, 20, 19)", x.find(0, 20, 19), NONE);
        CHECKS.due("find(0, 19, 19)", x.find(0, 19, 19), 19);
        CHECKS.due("find(2, 0, 0)", x.find(2, 0, 0), NONE);
    }

    private static void findFrom4096() {
        SharedLeaves x = new SharedLeaves();
        x.make(4096, 3);
        CHECKS.due("find(0, 4095, 3)", x.find(0, 4095, 3), 4095);
        CHECKS.due("find(0, 4096, 3)", x.find(0, 4096, 3), NONE);
        CHECKS.argumentRefused("find(0, 4097, 3)", () -> x.find(0, 4097, 3));
    }

    private static void findFromItself() {
        SharedLeaves x = Edges.twoThere();
        for (int i : new int[] {0, 15, 16, 19}) {
            CHECKS.due("find(0, " + i + ", " + i + ")", x.find(0, i, i), i);
            CHECKS.due("find(0, " + (i + 1) + ", " + i + ")", x.find(0, i + 1, i), NONE);
            CHECKS.due("find(0, 0, " + i + ")", x.find(0, 0, i), i);
        }
    }

    private static void findTheLeast() {
        SharedLeaves x = Edges.twoThere();
        x.set(0, 3, 77);
        x.set(0, 4, 77);
        x.set(0, 19, 77);
        CHECKS.due("find(0, 0, 77)", x.find(0, 0, 77), 3);
        CHECKS.due("find(0, 4, 77)", x.find(0, 4, 77), 4);
        CHECKS.due("find(0, 5, 77)", x.find(0, 5, 77), 19);
    }

    private static void findNothingBehindTheLast() {
        SharedLeaves x = Samples.counting(16);
        x.release(0);
        x.make(3, 90);
        x.set(0, 0, 91);
        CHECKS.due("find(0, 0, 5)", x.find(0, 0, 5), NONE);
        CHECKS.due("find(0, 0, 15)", x.find(0, 0, 15), NONE);
        CHECKS.due("find(0, 0, 90)", x.find(0, 0, 90), 1);
    }

    private static void findLeastAndGreatestInt() {
        SharedLeaves x = Edges.twoThere();
        CHECKS.due("find of the least int, not there", x.find(0, 0, LEAST_INT), NONE);
        CHECKS.due("find of the greatest int, not there", x.find(0, 0, GREATEST_INT), NONE);
        x.set(0, 17, LEAST_INT);
        x.set(0, 18, GREATEST_INT);
        CHECKS.due("find of the least int", x.find(0, 0, LEAST_INT), 17);
        CHECKS.due("find of the greatest int", x.find(0, 0, GREATEST_INT), 18);
    }

    private static void differenceFirstAndLast() {
        for (int i : new int[] {0, 15, 16, 4095}) {
            SharedLeaves x = Samples.halfFull();
            x.copy(0);
            x.set(1, i, 8);
            CHECKS.due("difference at " + i, x.difference(0, 1), i);
            CHECKS.due("difference at " + i + ", turned", x.difference(1, 0), i);
        }
    }

    private static void differenceTheLeast() {
        SharedLeaves x = Edges.twoThere();
        x.copy(0);
        x.set(1, 19, 8);
        x.set(1, 7, 9);
        CHECKS.due("difference(0, 1)", x.difference(0, 1), 7);
        x.slice(1, 0, 10);
        CHECKS.due("difference(0, 3), a shorter one", x.difference(0, 3), 7);
    }

    private static void differenceOfInts() {
        SharedLeaves x = new SharedLeaves();
        x.make(17, LEAST_INT);
        x.make(17, GREATEST_INT);
        CHECKS.due("difference(0, 1)", x.difference(0, 1), 0);
        x.make(17, LEAST_INT);
        CHECKS.due("difference(0, 2)", x.difference(0, 2), NONE);
        x.set(2, 16, 0);
        CHECKS.due("difference(0, 2), 0 the last", x.difference(0, 2), 16);
    }

    private static void differenceOfLengths() {
        for (int n : new int[] {1, 15, 16, 17, 4095}) {
            SharedLeaves x = Samples.halfFull();
            x.slice(0, 0, n);
            CHECKS.due("with one of " + n, x.difference(0, 1), n);
            CHECKS.due("of one of " + n, x.difference(1, 0), n);
        }
    }

    private static void differenceWithNone() {
        SharedLeaves x = Edges.twoThere();
        CHECKS.due("difference(0, 2)", x.difference(0, 2), 0);
        CHECKS.due("difference(2, 0)", x.difference(2, 0), 0);
        CHECKS.due("difference(2, 2)", x.difference(2, 2), NONE);
    }

    private static void differenceOfAlike() {
        SharedLeaves x = Edges.twoThere();
        CHECKS.due("difference(0, 0)", x.difference(0, 0), NONE);
        x.slice(0, 0, 20);
        CHECKS.due("difference(0, 1)", x.difference(0, 1), NONE);
        x.make(0, 7);
        CHECKS.due("difference(2, 3), no values", x.difference(2, 3), NONE);
        SharedLeaves y = Samples.halfFull();
        y.copy(0);
        CHECKS.due("difference of 4096", y.difference(0, 1), NONE);
    }

    private static void usedFirstAndLast() {
        CHECKS.due("used() of a new object", new SharedLeaves().used(), 0);
        SharedLeaves x = Samples.full();
        CHECKS.due("used() with places all taken", x.used(), 512);
        x.fill(2, 0, 16, 0);
        CHECKS.due("used() with one free", x.used(), 511);
        for (int a = 0; a < 3; a++) {
            x.release(a);
        }
        CHECKS.due("used() without arrays", x.used(), 0);
    }

    private static void usedCountsSharedOnce() {
        SharedLeaves x = Samples.counting(16);
        for (int copies = 0; copies < 14; copies++) {
            x.copy(0);
        }
        CHECKS.due("join(0, 0)", x.join(0, 0), 15);
        CHECKS.due("used()", x.used(), 1);
        for (int a = 0; a < 15; a++) {
            x.release(a);
        }
        CHECKS.due("used() with array 15 alone", x.used(), 1);
        x.release(15);
        CHECKS.due("used() without arrays", x.used(), 0);
    }

    private static void madeBeyondThePlaces() {
        SharedLeaves x = Samples.full();
        CHECKS.due("made() with places all taken", x.made(), 512);
        x.set(2, 0, 0);
        x.set(2, 0, 1);
        CHECKS.due("made() then", x.made(), 513);
        CHECKS.due("used() then", x.used(), 512);
        x.release(0);
        CHECKS.due("made() after a release", x.made(), 513);
    }

    private static void madeCountsNewOnesAlone() {
        SharedLeaves x = Samples.counting(32);
        CHECKS.due("made()", x.made(), 2);
        x.copy(0);
        x.slice(0, 16, 32);
        x.join(0, 2);
        x.make(100, 3);
        x.set(0, 0, 0);
        CHECKS.due("made() by sharing", x.made(), 2);
        for (int a = 1; a <= 4; a++) {
            x.release(a);
        }
        x.set(0, 0, 5);
        x.reverse(0);
        x.fill(0, 0, 16, 5);
        CHECKS.due("made() by writing itself", x.made(), 2);
        x.set(0, 0, 6);
        CHECKS.due("made() from CONSTANT", x.made(), 3);
    }

    private static void madeCountsNoRefusedOnes() {
        SharedLeaves x = Samples.full();
        CHECKS.stateRefused("slice(0, 1, 33)", () -> x.slice(0, 1, 33));
        CHECKS.argumentRefused("slice(0, 1, 4097)", () -> x.slice(0, 1, 4097));
        x.copy(2);
        CHECKS.stateRefused("set(3, 0, 5)", () -> x.set(3, 0, 5));
        CHECKS.due("made()", x.made(), 512);
    }

    private static void leafOfNoArray() {
        SharedLeaves x = Edges.twoThere();
        for (int a : Edges.NOT_THERE) {
            CHECKS.due("leaf(" + a + ", 0)", x.leaf(a, 0), NONE);
        }
    }

    private static void leafIsNone(int... numbers) {
        SharedLeaves x = Edges.twoThere();
        for (int k : numbers) {
            CHECKS.due("leaf(0, " + k + ")", x.leaf(0, k), NONE);
        }
    }

    private static void leafThatWraps() {
        leafIsNone(Edges.WRAPPING_LEAF, -Edges.WRAPPING_LEAF, Edges.WRAPPING_LEAF + 1, 8 * Edges.WRAPPING_LEAF);
    }

    private static void leafOfNoValues() {
        SharedLeaves x = Edges.twoThere();
        CHECKS.due("leaf(2, 0)", x.leaf(2, 0), NONE);
        CHECKS.due("leaf(2, -1)", x.leaf(2, -1), NONE);
        x.make(40, 1);
        x.release(1);
        x.make(0, 0);
        CHECKS.due("leaf(1, 0), its number used before", x.leaf(1, 0), NONE);
    }

    private static void leafFirstAndLast() {
        SharedLeaves x = Samples.halfFull();
        x.fill(0, 4064, 4080, 1);
        CHECKS.due("leaf(0, 0)", x.leaf(0, 0), 1);
        CHECKS.due("leaf(0, 254)", x.leaf(0, 254), 0);
        CHECKS.due("leaf(0, 255)", x.leaf(0, 255), 1);
        CHECKS.due("leaf(0, 256)", x.leaf(0, 256), NONE);
    }

    private static void leafOfLengths() {
        int[] lengths = {1, 16, 17, 32, 33};
        for (int n : lengths) {
            SharedLeaves x = new SharedLeaves();
            x.make(n, 1);
            int last = (n - 1) / 16;
            CHECKS.due("the last leaf of " + n, x.leaf(0, last), 0);
            CHECKS.due("behind the last leaf of " + n, x.leaf(0, last + 1), NONE);
        }
    }

    private static void leafKinds() {
        SharedLeaves x = Samples.counting(48);
        x.fill(0, 16, 32, 1);
        x.slice(0, 32, 48);
        int[] kinds = {1, 0, 2};
        for (int k = 0; k < 3; k++) {
            CHECKS.due("leaf(0, " + k + ")", x.leaf(0, k), kinds[k]);
        }
        CHECKS.due("leaf(1, 0)", x.leaf(1, 0), 2);
        x.release(0);
        CHECKS.due("leaf(1, 0), SHARED no more", x.leaf(1, 0), 1);
    }

    private interface AlikeWith {
        boolean answer(SharedLeaves x, int n);
    }

    private static void alikeIsFalse(AlikeWith call) {
        SharedLeaves x = Edges.twoThere();
        for (int a : Edges.NOT_THERE) {
            CHECKS.due("alike with array " + a, call.answer(x, a), false);
        }
    }

    private static void alikeOfNoLeaf() {
        SharedLeaves x = Edges.twoThere();
        for (int k : new int[] {-1, 2, 255, 256, LEAST_INT, GREATEST_INT}) {
            CHECKS.due("alike(0, " + k + ", 0, 0)", x.alike(0, k, 0, 0), false);
            CHECKS.due("alike(0, 0, 0, " + k + ")", x.alike(0, 0, 0, k), false);
            CHECKS.due("alike(0, " + k + ", 0, " + k + ")", x.alike(0, k, 0, k), false);
        }
        CHECKS.due("alike(2, 0, 2, 0), no values", x.alike(2, 0, 2, 0), false);
    }

    private static void alikeOfLeavesThatWrap() {
        SharedLeaves x = Edges.twoThere();
        for (int k : new int[] {Edges.WRAPPING_LEAF, -Edges.WRAPPING_LEAF, 8 * Edges.WRAPPING_LEAF}) {
            CHECKS.due("alike(0, 0, 0, " + k + ")", x.alike(0, 0, 0, k), false);
            CHECKS.due("alike(0, " + k + ", 0, 0)", x.alike(0, k, 0, 0), false);
        }
    }

    private static void alikeOfConstantOnes() {
        SharedLeaves x = Samples.counting(16);
        x.make(32, 1);
        x.copy(1);
        CHECKS.due("alike(1, 0, 1, 0), itself", x.alike(1, 0, 1, 0), false);
        CHECKS.due("alike(1, 0, 1, 1)", x.alike(1, 0, 1, 1), false);
        CHECKS.due("alike(1, 0, 2, 0), a copy's", x.alike(1, 0, 2, 0), false);
        CHECKS.due("alike(0, 0, 1, 0)", x.alike(0, 0, 1, 0), false);
        CHECKS.due("alike(1, 0, 0, 0)", x.alike(1, 0, 0, 0), false);
    }

    private static void alikeOfTwoWithTheSameValues() {
        SharedLeaves x = new SharedLeaves();
        for (int a = 0; a < 2; a++) {
            x.make(16, 1);
            x.set(a, 0, 2);
        }
        CHECKS.due("alike(0, 0, 1, 0)", x.alike(0, 0, 1, 0), false);
        CHECKS.due("leaf(0, 0)", x.leaf(0, 0), 1);
        CHECKS.due("used()", x.used(), 2);
    }

    private static void alikeFirstAndLast() {
        SharedLeaves x = Samples.halfFull();
        x.copy(0);
        CHECKS.due("alike(0, 0, 0, 0)", x.alike(0, 0, 0, 0), true);
        CHECKS.due("alike(0, 255, 0, 255)", x.alike(0, 255, 0, 255), true);
        CHECKS.due("alike(0, 0, 1, 0)", x.alike(0, 0, 1, 0), true);
        CHECKS.due("alike(1, 255, 0, 255)", x.alike(1, 255, 0, 255), true);
        CHECKS.due("alike(0, 0, 0, 255)", x.alike(0, 0, 0, 255), false);
        CHECKS.due("alike(0, 255, 1, 0)", x.alike(0, 255, 1, 0), false);
    }
}
