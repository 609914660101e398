/** Objects in states that several tests begin with, reached in few calls. */
final class Samples {
    private Samples() {
    }

    /** Array 0 with n values 0, 1, 2, ..: all its leaves are OWN, but for a last one with a single value. */
    static SharedLeaves counting(int n) {
        SharedLeaves x = new SharedLeaves();
        x.make(n, 0);
        for (int i = 1; i < n; i++) {
            x.set(0, i, i);
        }
        return x;
    }

    /** All sixteen arrays, array a with a values a. */
    static SharedLeaves allThere() {
        SharedLeaves x = new SharedLeaves();
        for (int a = 0; a < 16; a++) {
            x.make(a, a);
        }
        return x;
    }

    /** Array 0 with 4096 values and 256 OWN leaves, each a 1 and then fifteen 0. */
    static SharedLeaves halfFull() {
        SharedLeaves x = new SharedLeaves();
        x.make(4096, 0);
        x.set(0, 0, 1);
        for (int width = 16; width < 4096; width *= 2) {
            x.move(0, 0, width, width);
        }
        return x;
    }

    /**
     * No place is free: array 0 of halfFull, array 1 with 255 OWN leaves of fifteen 0 and then
     * a 1 and a last CONSTANT leaf of fifteen 0, array 2 with one OWN leaf of a 1 and fifteen 0.
     */
    static SharedLeaves full() {
        SharedLeaves x = halfFull();
        x.slice(0, 1, 4096);
        x.make(16, 0);
        x.set(2, 0, 1);
        return x;
    }

    /** The object of full with some places free: the last leaves of array 0 are CONSTANT, as many. */
    static SharedLeaves withFree(int places) {
        SharedLeaves x = full();
        for (int i = 1; i <= places; i++) {
            x.set(0, 4096 - 16 * i, 0);
        }
        return x;
    }

    /** The object was used for other values just now: none of them may be taken for an array's own. */
    static void workOnOthers(SharedLeaves x) {
        int number = x.make(4096, 5555);
        x.reverse(number);
        x.sum(number, 0, 4096);
        x.difference(number, number);
        x.release(number);
    }
}
