/** ROOM, for each call that can make OWN leaves: a test for each case that its sentence names. */
public final class RoomTest {
    private static final Checks CHECKS = new Checks();
    private static final Edges EDGES = new Edges(CHECKS);
    private static final int NONE = SharedLeaves.NONE;

    private interface Step {
        void in(SharedLeaves x);
    }

    /** How many OWN leaves a call makes, and how many it sets free. */
    private record Leaves(int made, int freed) {
    }

    public static void main(String[] args) {
        asManyAsAreFree();
        whatTheCallSetsFree();
        withPlacesAllTaken();
        otherCauses();
        CHECKS.end();
    }

    private static void asManyAsAreFree() {
        Leaves one = new Leaves(1, 0);
        Leaves two = new Leaves(2, 0);
        Step constant = x -> x.make(32, 0);
        Step shared = x -> x.slice(0, 0, 32);
        room("4: no room: slice", two, x -> x.make(0, 0), x -> x.slice(0, 1, 33));
        room("5: no room: join", two, RoomTest::withTwoToJoin, x -> x.join(3, 4));
        room("8: no room: set, CONSTANT", one, constant, x -> x.set(3, 31, 9));
        room("8: no room: set, SHARED", one, shared, x -> x.set(3, 31, 9));
        room("9: no room: fill, CONSTANT", two, constant, x -> x.fill(3, 8, 24, 1));
        room("9: no room: fill, SHARED", two, shared, x -> x.fill(3, 8, 24, 1));
        room("10: no room: move, CONSTANT", two, RoomTest::withThreeNumbers, x -> x.move(3, 32, 40, 12));
        room("10: no room: move, SHARED", two, shared, x -> x.move(3, 0, 31, 1));
        room("11: no room: sort, CONSTANT", two, RoomTest::withThreeNumbers, x -> x.sort(3));
        room("11: no room: sort, SHARED", one, shared, x -> x.sort(3));
        room("12: no room: reverse, CONSTANT", two, RoomTest::withThreeNumbers, x -> x.reverse(3));
        room("12: no room: reverse, SHARED", two, shared, x -> x.reverse(3));
        CHECKS.sentence("4: no room: slice, 255 leaves", () -> all255(x -> x.slice(0, 2, 4096)));
        CHECKS.sentence("5: no room: join, 255 leaves", () -> all255(x -> x.join(1, 2)));
    }

    private static void whatTheCallSetsFree() {
        Leaves one = new Leaves(1, 1);
        room("9: those set free don't count: fill", one, RoomTest::withOneToSetFree, x -> x.fill(4, 0, 24, 5));
        room("10: those set free don't count: move", one, RoomTest::withOneToSetFree, x -> x.move(4, 32, 56, 0));
        room("11: those set free don't count: sort", one, RoomTest::withOneToSetFree, x -> x.sort(4));
        room("12: those set free don't count: reverse", one, RoomTest::withOneToSetFree, x -> x.reverse(4));
        Leaves twice = new Leaves(2, 1);
        room("9: those set free don't count: fill, twice", twice, RoomTest::withALeafTwice, x -> x.fill(3, 8, 24, 5));
        room("10: those set free don't count: move, twice", twice, RoomTest::withALeafTwice, x -> x.move(3, 0, 31, 1));
        room("12: those set free don't count: reverse, twice", twice, RoomTest::withALeafTwice, x -> x.reverse(3));
    }

    private static void withPlacesAllTaken() {
        CHECKS.sentence("that weren't there before: leaves that are shared", RoomTest::sharingNeedsNoPlace);
        CHECKS.sentence("that weren't there before: leaves that stay", RoomTest::stayingNeedsNoPlace);
        CHECKS.sentence("that weren't there before: leaves themselves", RoomTest::writingItselfNeedsNoPlace);
        CHECKS.sentence("OWN leaves: CONSTANT ones need no place", RoomTest::constantNeedsNoPlace);
        CHECKS.sentence("places free before it: by release", RoomTest::placesAreFreedByRelease);
        CHECKS.sentence("places free before it: in any order", RoomTest::placesAreGivenBackInAnyOrder);
    }

    private static void otherCauses() {
        CHECKS.sentence("wrong arguments where there is no room", RoomTest::argumentsWithoutRoom);
        CHECKS.sentence("wrong arguments where all are there", RoomTest::argumentsWithAllThere);
        CHECKS.sentence("all are there, and no room", RoomTest::allThereAndNoRoom);
    }

    private static void room(String words, Leaves leaves, Step before, Step call) {
        CHECKS.sentence(words + ", places all taken", () -> refusedWith(0, before, call));
        if (leaves.made > 1) {
            CHECKS.sentence(words + ", one place short", () -> refusedWith(leaves.made - 1, before, call));
        }
        CHECKS.sentence(words + ", just enough", () -> goesWith(leaves.made, leaves, before, call));
        CHECKS.sentence(words + ", one place more", () -> goesWith(leaves.made + 1, leaves, before, call));
    }

    private static void refusedWith(int free, Step before, Step call) {
        SharedLeaves x = prepared(free, before);
        EDGES.asBefore("refused", x, () -> CHECKS.stateRefused("the call", () -> call.in(x)));
    }

    private static void goesWith(int free, Leaves leaves, Step before, Step call) {
        SharedLeaves x = prepared(free, before);
        int made = x.made();
        call.in(x);
        CHECKS.due("used()", x.used(), 512 - free + leaves.made - leaves.freed);
        CHECKS.due("made() more", x.made() - made, leaves.made);
    }

    private static SharedLeaves prepared(int free, Step before) {
        SharedLeaves x = Samples.withFree(free);
        before.in(x);
        CHECKS.due("used() before", x.used(), 512 - free);
        return x;
    }

    private static void withTwoToJoin(SharedLeaves x) {
        x.make(1, 7);
        x.slice(0, 0, 32);
    }

    /** Array 3 with sixteen 5, sixteen 3 and eight 1: in rising order, or turned, two of its leaves are OWN. */
    private static void withThreeNumbers(SharedLeaves x) {
        x.make(40, 5);
        x.fill(3, 16, 32, 3);
        x.fill(3, 32, 40, 1);
    }

    /** Array 4 has array 2's OWN leaf, of a 1 and fifteen 0, then sixteen 0 and thirty-two 5; 2 and 3 are released. */
    private static void withOneToSetFree(SharedLeaves x) {
        x.make(48, 0);
        x.fill(3, 16, 48, 5);
        x.join(2, 3);
        x.release(2);
        x.release(3);
    }

    /** Array 3 has array 2's OWN leaf twice; 2 is released. */
    private static void withALeafTwice(SharedLeaves x) {
        x.join(2, 2);
        x.release(2);
    }

    /** The call makes 255 OWN leaves of array 0, or of arrays 1 and 2, in an object with as many places free, or fewer. */
    private static void all255(Step call) {
        SharedLeaves x = Samples.halfFull();
        x.make(2, 0);
        x.slice(0, 0, 4080);
        x.make(16, 0);
        x.set(3, 0, 3);
        x.make(16, 0);
        x.set(4, 0, 3);
        CHECKS.due("used() with 254 free", x.used(), 258);
        EDGES.asBefore("255 of 254", x, () -> CHECKS.stateRefused("the call", () -> call.in(x)));
        x.set(4, 0, 0);
        call.in(x);
        CHECKS.due("used() after 255 of 255", x.used(), 512);
        CHECKS.due("made()", x.made(), 258 + 255);
    }

    private static void sharingNeedsNoPlace() {
        SharedLeaves x = Samples.full();
        CHECKS.due("copy(0)", x.copy(0), 3);
        CHECKS.due("slice(0, 16, 48)", x.slice(0, 16, 48), 4);
        CHECKS.due("join(4, 2)", x.join(4, 2), 5);
        CHECKS.due("alike(5, 2, 2, 0)", x.alike(5, 2, 2, 0), true);
        CHECKS.due("used()", x.used(), 512);
        CHECKS.due("made()", x.made(), 512);
    }

    private static void stayingNeedsNoPlace() {
        SharedLeaves x = Samples.full();
        x.copy(2);
        x.slice(1, 0, 16);
        x.make(16, 7);
        EDGES.asBefore("all stays", x, () -> {
            x.set(3, 0, 1);
            x.fill(3, 1, 16, 0);
            x.move(3, 0, 16, 0);
            x.sort(4);
            x.reverse(5);
            x.set(5, 15, 7);
        });
        CHECKS.due("alike(2, 0, 3, 0)", x.alike(2, 0, 3, 0), true);
    }

    private static void writingItselfNeedsNoPlace() {
        SharedLeaves x = Samples.full();
        x.set(2, 15, 5);
        CHECKS.due("get(2, 15)", x.get(2, 15), 5);
        x.fill(2, 3, 6, 4);
        CHECKS.due("sum of 2", x.sum(2, 0, 16), 1 + 5 + 12);
        x.move(2, 14, 16, 0);
        CHECKS.due("get(2, 1)", x.get(2, 1), 5);
        x.sort(2);
        CHECKS.due("get(2, 15), sorted", x.get(2, 15), 5);
        x.reverse(0);
        CHECKS.due("get(0, 4095), turned", x.get(0, 4095), 1);
        CHECKS.due("used()", x.used(), 512);
        CHECKS.due("made()", x.made(), 512);
    }

    private static void constantNeedsNoPlace() {
        SharedLeaves x = Samples.full();
        CHECKS.due("make(4096, 1)", x.make(4096, 1), 3);
        CHECKS.due("slice(0, 17, 32)", x.slice(0, 17, 32), 4);
        CHECKS.due("join(4, 4)", x.join(4, 4), 5);
        x.fill(3, 16, 48, 9);
        CHECKS.due("sum of 3", x.sum(3, 0, 4096), 4096 + 32 * 8);
        x.copy(2);
        x.set(6, 0, 0);
        CHECKS.due("leaf(6, 0)", x.leaf(6, 0), 0);
        CHECKS.due("used()", x.used(), 512);
        x.sort(0);
        CHECKS.due("used(), sorted to CONSTANT ones", x.used(), 256);
        CHECKS.due("made()", x.made(), 512);
    }

    private static void placesAreFreedByRelease() {
        SharedLeaves x = Samples.full();
        CHECKS.stateRefused("slice(0, 1, 4096)", () -> x.slice(0, 1, 4096));
        x.release(1);
        CHECKS.due("slice(0, 1, 4096) after release(1)", x.slice(0, 1, 4096), 1);
        CHECKS.due("used()", x.used(), 512);
        CHECKS.due("made()", x.made(), 512 + 255);
        CHECKS.stateRefused("slice(0, 1, 4096) again", () -> x.slice(0, 1, 4096));
        x.copy(1);
        x.release(1);
        CHECKS.stateRefused("slice(0, 1, 4096), the copy being there", () -> x.slice(0, 1, 4096));
    }

    private static void placesAreGivenBackInAnyOrder() {
        SharedLeaves x = new SharedLeaves();
        for (int a = 0; a < 4; a++) {
            x.make(16, a);
            x.set(a, 0, 10 + a);
        }
        x.release(0);
        x.release(2);
        x.make(16, 5);
        x.make(16, 6);
        x.set(0, 0, 15);
        x.set(2, 0, 16);
        CHECKS.due("sum of 0", x.sum(0, 0, 16), 15 + 15 * 5);
        CHECKS.due("sum of 1", x.sum(1, 0, 16), 11 + 15 * 1);
        CHECKS.due("sum of 2", x.sum(2, 0, 16), 16 + 15 * 6);
        CHECKS.due("sum of 3", x.sum(3, 0, 16), 13 + 15 * 3);
        CHECKS.due("used()", x.used(), 4);
        for (int a = 0; a < 4; a++) {
            CHECKS.due("leaf(" + a + ", 0)", x.leaf(a, 0), 1);
        }
    }

    private static void argumentsWithoutRoom() {
        SharedLeaves x = Samples.full();
        CHECKS.argumentRefused("set(0, 4096, 1)", () -> x.set(0, 4096, 1));
        CHECKS.argumentRefused("fill(0, 0, 4097, 1)", () -> x.fill(0, 0, 4097, 1));
        CHECKS.argumentRefused("move(0, 0, 4096, 1)", () -> x.move(0, 0, 4096, 1));
        CHECKS.argumentRefused("slice(0, 1, 4097)", () -> x.slice(0, 1, 4097));
        CHECKS.argumentRefused("join(1, 2)", () -> x.join(1, 2));
        CHECKS.argumentRefused("sort(3)", () -> x.sort(3));
        CHECKS.argumentRefused("reverse(3)", () -> x.reverse(3));
    }

    private static void argumentsWithAllThere() {
        SharedLeaves x = Samples.allThere();
        CHECKS.argumentRefused("make(-1, 0)", () -> x.make(-1, 0));
        CHECKS.argumentRefused("make(4097, 0)", () -> x.make(4097, 0));
        CHECKS.argumentRefused("copy(16)", () -> x.copy(16));
        CHECKS.argumentRefused("slice(3, 0, 4)", () -> x.slice(3, 0, 4));
        CHECKS.argumentRefused("join(3, 16)", () -> x.join(3, 16));
    }

    private static void allThereAndNoRoom() {
        SharedLeaves x = Samples.full();
        for (int a = 3; a <= 15; a++) {
            CHECKS.due("make(2, 0)", x.make(2, 0), a);
        }
        EDGES.asBefore("refused", x, () -> {
            CHECKS.stateRefused("slice(0, 1, 33)", () -> x.slice(0, 1, 33));
            CHECKS.stateRefused("join(3, 2)", () -> x.join(3, 2));
            CHECKS.stateRefused("set(3, 0, 1)", () -> x.set(3, 0, 1));
        });
        CHECKS.due("length(16)", x.length(16), NONE);
    }
}
