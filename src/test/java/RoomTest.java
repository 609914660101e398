/** ROOM: a call that would make more OWN leaves than places are free is refused, and changes nothing. */
public final class RoomTest {
    private static final Checks CHECKS = new Checks();

    public static void main(String[] args) {
        fullObjectRefusesNewLeaves();
        fullObjectDoesTheRest();
        lastPlaceCanBeTaken();
        whatACallSetsFreeDoesNotCount();
        sliceIsCountedAsAWhole();
        joinIsCountedAsAWhole();
        placesAreUsedAgain();
        placesAreGivenBackInAnyOrder();
        argumentsAreLookedAtFirst();
        CHECKS.end();
    }

    private static void fullObjectRefusesNewLeaves() {
        SharedLeaves x = Samples.full();
        CHECKS.due("full: used()", x.used(), 512);
        CHECKS.due("full: made()", x.made(), 512);
        x.make(20, 7);
        x.copy(2);
        CHECKS.stateRefused("full: slice(0, 1, 20)", () -> x.slice(0, 1, 20));
        CHECKS.stateRefused("full: slice(0, 16, 24)", () -> x.slice(0, 16, 24));
        CHECKS.stateRefused("full: join(3, 2)", () -> x.join(3, 2));
        CHECKS.stateRefused("full: set(3, 0, 8)", () -> x.set(3, 0, 8));
        CHECKS.stateRefused("full: set(4, 0, 8), SHARED", () -> x.set(4, 0, 8));
        CHECKS.stateRefused("full: fill(3, 4, 17, 8)", () -> x.fill(3, 4, 17, 8));
        CHECKS.stateRefused("full: reverse(4), SHARED", () -> x.reverse(4));
        CHECKS.stateRefused("full: sort(4), SHARED", () -> x.sort(4));
        CHECKS.stateRefused("full: move(4, 0, 1, 1), SHARED", () -> x.move(4, 0, 1, 1));
        CHECKS.due("full: used() after refusals", x.used(), 512);
        CHECKS.due("full: made() after refusals", x.made(), 512);
        CHECKS.due("full: length(5) after refusals", x.length(5), SharedLeaves.NONE);
        CHECKS.due("full: sum(3) after refusals", x.sum(3, 0, 20), 140);
        CHECKS.due("full: leaf(3, 0) after refusals", x.leaf(3, 0), 0);
        CHECKS.due("full: alike(2, 0, 4, 0) after refusals", x.alike(2, 0, 4, 0), true);
        CHECKS.due("full: get(4, 0) after refusals", x.get(4, 0), 1);
    }

    private static void fullObjectDoesTheRest() {
        SharedLeaves x = Samples.full();
        CHECKS.due("full: copy(0)", x.copy(0), 3);
        x.release(3);
        CHECKS.due("full: slice(0, 16, 48)", x.slice(0, 16, 48), 3);
        CHECKS.due("full: slice(0, 17, 32), of one number", x.slice(0, 17, 32), 4);
        CHECKS.due("full: join(3, 2)", x.join(3, 2), 5);
        CHECKS.due("full: make(4096, 1)", x.make(4096, 1), 6);
        x.set(0, 4095, 5);
        CHECKS.due("full: get(0, 4095), the leaf itself", x.get(0, 4095), 5);
        x.set(2, 0, 1);
        x.set(6, 0, 1);
        x.fill(6, 16, 48, 9);
        CHECKS.due("full: sum(6) of constants", x.sum(6, 0, 4096), 4096 + 32 * 8);
        CHECKS.due("full: used()", x.used(), 512);
        CHECKS.due("full: made()", x.made(), 512);
        SharedLeaves y = Samples.full();
        y.reverse(0);
        CHECKS.due("full: reverse(0), the leaves themselves", y.get(0, 4095), 1);
        y.sort(0);
        CHECKS.due("full: sort(0), to constants", y.used(), 256);
        CHECKS.due("full: made() then", y.made(), 512);
    }

    private static void lastPlaceCanBeTaken() {
        SharedLeaves x = Samples.halfFull();
        x.slice(0, 1, 4096);
        CHECKS.due("one free: used()", x.used(), 511);
        x.make(32, 0);
        CHECKS.stateRefused("one free: fill(2, 8, 24, 1) makes two", () -> x.fill(2, 8, 24, 1));
        CHECKS.due("one free: sum(2)", x.sum(2, 0, 32), 0);
        CHECKS.due("one free: used() after the refusal", x.used(), 511);
        x.fill(2, 8, 16, 1);
        CHECKS.due("one free: fill(2, 8, 16, 1) makes one", x.used(), 512);
        CHECKS.stateRefused("none free: set(2, 31, 1)", () -> x.set(2, 31, 1));
        x.fill(2, 0, 16, 1);
        CHECKS.due("one free again: used()", x.used(), 511);
        x.set(2, 31, 1);
        CHECKS.due("one free again: get(2, 31)", x.get(2, 31), 1);
        CHECKS.due("one free again: made()", x.made(), 513);
    }

    private static void whatACallSetsFreeDoesNotCount() {
        SharedLeaves x = Samples.full();
        x.make(16, 0);
        x.join(2, 3);
        x.release(2);
        CHECKS.due("sets free: leaf(2, 0)", x.leaf(2, 0), SharedLeaves.NONE);
        CHECKS.due("sets free: leaf(4, 0) is OWN", x.leaf(4, 0), 1);
        CHECKS.stateRefused("sets free: reverse(4) frees leaf 0 and makes leaf 1", () -> x.reverse(4));
        CHECKS.stateRefused("sets free: move(4, 0, 16, 16)", () -> x.move(4, 0, 16, 16));
        CHECKS.stateRefused("sets free: sort(4)", () -> x.sort(4));
        CHECKS.due("sets free: get(4, 0)", x.get(4, 0), 1);
        CHECKS.due("sets free: sum(4, 1, 32)", x.sum(4, 1, 32), 0);
        CHECKS.due("sets free: used()", x.used(), 512);
        SharedLeaves y = Samples.full();
        y.join(2, 2);
        y.release(2);
        CHECKS.due("shared within: leaf(3, 0)", y.leaf(3, 0), 2);
        CHECKS.stateRefused("shared within: reverse(3) frees one and makes two", () -> y.reverse(3));
        y.set(0, 0, 0);
        CHECKS.stateRefused("shared within: reverse(3) with one free", () -> y.reverse(3));
        y.set(0, 16, 0);
        y.reverse(3);
        CHECKS.due("shared within: used() with two free", y.used(), 511);
        CHECKS.due("shared within: made() with two free", y.made(), 514);
    }

    private static void sliceIsCountedAsAWhole() {
        SharedLeaves x = Samples.halfFull();
        CHECKS.due("slice makes 255", x.slice(0, 1, 4096), 1);
        x.release(1);
        x.make(16, 0);
        x.set(1, 0, 3);
        x.set(1, 1, 3);
        CHECKS.due("slice: used()", x.used(), 257);
        CHECKS.due("slice makes 255 of 255", x.slice(0, 2, 4096), 2);
        CHECKS.due("slice: used() then", x.used(), 512);
        x.release(2);
        x.make(16, 0);
        x.set(2, 0, 3);
        CHECKS.stateRefused("slice would make 255 of 254", () -> x.slice(0, 2, 4096));
        CHECKS.due("slice: length(3)", x.length(3), SharedLeaves.NONE);
        CHECKS.due("slice: used() after the refusal", x.used(), 258);
        CHECKS.due("slice of one leaf fewer", x.slice(0, 2, 4080), 3);
    }

    private static void joinIsCountedAsAWhole() {
        SharedLeaves x = Samples.halfFull();
        x.make(2, 0);
        x.slice(0, 0, 4080);
        CHECKS.due("join: used()", x.used(), 256);
        CHECKS.due("join makes 255", x.join(1, 2), 3);
        CHECKS.due("join: used() then", x.used(), 511);
        CHECKS.stateRefused("join would make 255 of 1", () -> x.join(1, 2));
        CHECKS.due("join: length(4)", x.length(4), SharedLeaves.NONE);
        CHECKS.due("join: made()", x.made(), 511);
        x.make(16, 4);
        CHECKS.due("join makes none", x.join(4, 2), 5);
        CHECKS.due("join makes one of one", x.join(1, 4), 6);
        CHECKS.due("join: used() at the end", x.used(), 512);
    }

    private static void placesAreUsedAgain() {
        SharedLeaves x = Samples.halfFull();
        for (int round = 1; round <= 100; round++) {
            CHECKS.due("again: slice(0, 1, 4096)", x.slice(0, 1, 4096), 1);
            CHECKS.due("again: used()", x.used(), 511);
            CHECKS.due("again: made()", x.made(), 256 + 255 * round);
            x.release(1);
        }
        CHECKS.due("again: sum(0)", x.sum(0, 0, 4096), 256);
    }

    private static void placesAreGivenBackInAnyOrder() {
        SharedLeaves x = new SharedLeaves();
        for (int a = 0; a < 4; a++) {
            x.make(16, a);
            x.set(a, 0, 10 + a);
        }
        x.release(0);
        x.release(2);
        x.make(16, 5);
        x.make(16, 6);
        x.set(0, 0, 15);
        x.set(2, 0, 16);
        CHECKS.due("any order: sum(0)", x.sum(0, 0, 16), 15 + 15 * 5);
        CHECKS.due("any order: sum(1)", x.sum(1, 0, 16), 11 + 15 * 1);
        CHECKS.due("any order: sum(2)", x.sum(2, 0, 16), 16 + 15 * 6);
        CHECKS.due("any order: sum(3)", x.sum(3, 0, 16), 13 + 15 * 3);
        CHECKS.due("any order: used()", x.used(), 4);
        for (int a = 0; a < 4; a++) {
            CHECKS.due("any order: leaf(" + a + ", 0)", x.leaf(a, 0), 1);
        }
    }

    private static void argumentsAreLookedAtFirst() {
        SharedLeaves x = Samples.full();
        CHECKS.argumentRefused("full: set(0, 4096, 1)", () -> x.set(0, 4096, 1));
        CHECKS.argumentRefused("full: fill(0, 0, 4097, 1)", () -> x.fill(0, 0, 4097, 1));
        CHECKS.argumentRefused("full: move(0, 0, 4096, 1)", () -> x.move(0, 0, 4096, 1));
        CHECKS.argumentRefused("full: slice(0, 1, 4097)", () -> x.slice(0, 1, 4097));
        CHECKS.argumentRefused("full: join(1, 2)", () -> x.join(1, 2));
        CHECKS.argumentRefused("full: sort(3)", () -> x.sort(3));
        CHECKS.argumentRefused("full: reverse(3)", () -> x.reverse(3));
        SharedLeaves y = Samples.allThere();
        CHECKS.argumentRefused("all there: make(-1, 0)", () -> y.make(-1, 0));
        CHECKS.argumentRefused("all there: copy(16)", () -> y.copy(16));
        CHECKS.argumentRefused("all there: slice(3, 0, 4)", () -> y.slice(3, 0, 4));
        CHECKS.argumentRefused("all there: join(3, 16)", () -> y.join(3, 16));
    }
}
