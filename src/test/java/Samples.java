/** Objects in states that several tests begin with, reached in few calls. */
final class Samples {
    private Samples() {
    }

    /** Array 0 with n values 0, 1, 2, ..: all its leaves are OWN, but for a last one with a single value. */
    static SharedLeaves counting(int n) {
        SharedLeaves x = new SharedLeaves();
        x.make(n, 0);
        for (int i = 1; i < n; i++) {
            x.set(0, i, i);
        }
        return x;
    }

    /** All sixteen arrays, array a with a values a. */
    static SharedLeaves allThere() {
        SharedLeaves x = new SharedLeaves();
        for (int a = 0; a < 16; a++) {
            x.make(a, a);
        }
        return x;
    }

    /** Array 0 with 4096 values and 256 OWN leaves, each a 1 and then fifteen 0. */
    static SharedLeaves halfFull() {
        SharedLeaves x = new SharedLeaves();
        x.make(4096, 0);
        x.set(0, 0, 1);
        for (int width = 16; width < 4096; width *= 2) {
            x.move(0, 0, width, width);
        }
        return x;
    }

    /**
     * No place is free: array 0 of halfFull, array 1 with 255 OWN leaves of fifteen 0 and then
     * a 1 and a last CONSTANT leaf of fifteen 0, array 2 with one OWN leaf of a 1 and fifteen 0.
     */
    static SharedLeaves full() {
        SharedLeaves x = halfFull();
        x.slice(0, 1, 4096);
        x.make(16, 0);
        x.set(2, 0, 1);
        return x;
    }
}
