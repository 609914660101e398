import java.util.Arrays;

/** Arrays passed about by value: copies, slices and joins share their leaves until they are written. */
public final class SharedLeaves {
    /** Nothing there. */
    public static final int NONE = -1;

    private static final int ARRAYS = 16;
    private static final int MOST_VALUES = 4096;
    private static final int LEAF_VALUES = 16;
    private static final int MOST_LEAVES = 256;
    private static final int PLACES = 512;
    private static final int NO_PLACE = -1;

    private static final int CONSTANT = 0;
    private static final int OWN = 1;
    private static final int SHARED = 2;

    private static final int LEAST = 0;
    private static final int GREATEST = 1;
    private static final int LEAST_INT = -2147483648;
    private static final int GREATEST_INT = 2147483647;

    private static final int STAYS = 0;
    private static final int BECOMES_CONSTANT = 1;
    private static final int BECOMES_ITSELF = 2;
    private static final int BECOMES_NEW = 3;

    private final Row[] rows = new Row[ARRAYS];
    private final Places places = new Places();

    // Work rows, made once because a run has little room: what a call is about to write stands
    // in next, at the indexes that it will have, so that nothing is written before it is refused.
    private final int[] next = new int[MOST_VALUES];
    private final int[] spare = new int[MOST_VALUES];
    private final int[] plans = new int[MOST_LEAVES];

    /** No arrays. */
    public SharedLeaves() {
        for (int a = 0; a < ARRAYS; a++) {
            rows[a] = new Row();
        }
    }

    /** An array of n times v: its number. */
    public int make(int n, int v) throws IllegalArgumentException, IllegalStateException {
        if (n < 0 || n > MOST_VALUES) {
            throw new IllegalArgumentException("the length isn't 0 .. 4096");
        }
        int number = numberForNewArray();
        Row row = rows[number];
        row.begin(n);
        for (int k = 0; k < row.leafCount(); k++) {
            row.numbers[k] = v;
        }
        return number;
    }

    /** An array with the values and the leaves of a: its number. */
    public int copy(int a) throws IllegalArgumentException, IllegalStateException {
        Row source = arrayThere(a);
        int number = numberForNewArray();
        Row row = rows[number];
        row.begin(source.length);
        shareLeaves(source, 0, row, 0, source.leafCount());
        return number;
    }

    /** An array of a's values from .. to - 1: its number. */
    public int slice(int a, int from, int to) throws IllegalArgumentException, IllegalStateException {
        Row source = arrayThere(a);
        checkRange(source, from, to);
        int number = numberForNewArray();
        int length = to - from;
        int shared = from % LEAF_VALUES == 0 ? length / LEAF_VALUES : 0;
        int cut = shared * LEAF_VALUES;
        readValues(source, from + cut, to, next, cut);
        checkRoom(countOwnInNext(shared, length));
        Row row = rows[number];
        row.begin(length);
        shareLeaves(source, from / LEAF_VALUES, row, 0, shared);
        newLeaves(row, shared);
        return number;
    }

    /** An array of a's values and then b's: its number. */
    public int join(int a, int b) throws IllegalArgumentException, IllegalStateException {
        Row left = arrayThere(a);
        Row right = arrayThere(b);
        int length = left.length + right.length;
        if (length > MOST_VALUES) {
            throw new IllegalArgumentException("more than 4096 values");
        }
        int number = numberForNewArray();
        int fromLeft = left.length / LEAF_VALUES;
        int fromRight = left.length % LEAF_VALUES == 0 ? right.leafCount() : 0;
        int shared = fromLeft + fromRight;
        readValues(left, fromLeft * LEAF_VALUES, left.length, next, fromLeft * LEAF_VALUES);
        readValues(right, 0, right.length, next, left.length);
        checkRoom(countOwnInNext(shared, length));
        Row row = rows[number];
        row.begin(length);
        shareLeaves(left, 0, row, 0, fromLeft);
        shareLeaves(right, 0, row, fromLeft, fromRight);
        newLeaves(row, shared);
        return number;
    }

    /** Array a is there no more; false if it isn't there. */
    public boolean release(int a) {
        if (!isThere(a)) {
            return false;
        }
        Row row = rows[a];
        for (int k = 0; k < row.leafCount(); k++) {
            setConstant(row, k, 0);
        }
        row.there = false;
        return true;
    }

    /** Value i of a. */
    public int get(int a, int i) throws IllegalArgumentException {
        Row row = arrayThere(a);
        checkIndex(row, i);
        int k = i / LEAF_VALUES;
        int place = row.leafPlaces[k];
        return place == NO_PLACE ? row.numbers[k] : places.valueAt(place, i % LEAF_VALUES);
    }

    /** Value i of a becomes v. */
    public void set(int a, int i, int v) throws IllegalArgumentException, IllegalStateException {
        Row row = arrayThere(a);
        checkIndex(row, i);
        fillValues(row, i, i + 1, v);
    }

    /** Values from .. to - 1 of a become v. */
    public void fill(int a, int from, int to, int v) throws IllegalArgumentException, IllegalStateException {
        Row row = arrayThere(a);
        checkRange(row, from, to);
        fillValues(row, from, to, v);
    }

    /** What values from .. to - 1 of a were, its values from at on become. */
    public void move(int a, int from, int to, int at) throws IllegalArgumentException, IllegalStateException {
        Row row = arrayThere(a);
        checkRange(row, from, to);
        int count = to - from;
        if (at < 0 || at > row.length - count) {
            throw new IllegalArgumentException("the values would lie outside the array");
        }
        int first = at / LEAF_VALUES;
        int end = leavesFor(at + count);
        readLeaves(row, first, end);
        readValues(row, from, to, next, at);
        changeLeaves(row, first, end);
    }

    /** The values of a come in rising order. */
    public void sort(int a) throws IllegalArgumentException, IllegalStateException {
        Row row = arrayThere(a);
        readValues(row, 0, row.length, next, 0);
        sortNext(row.length);
        changeLeaves(row, 0, row.leafCount());
    }

    /** The values of a come the other way round. */
    public void reverse(int a) throws IllegalArgumentException, IllegalStateException {
        Row row = arrayThere(a);
        readValues(row, 0, row.length, spare, 0);
        for (int i = 0; i < row.length; i++) {
            next[i] = spare[row.length - 1 - i];
        }
        changeLeaves(row, 0, row.leafCount());
    }

    /** How many values a has; NONE if it isn't there. */
    public int length(int a) {
        return isThere(a) ? rows[a].length : NONE;
    }

    /** The sum of a's values from .. to - 1. */
    public long sum(int a, int from, int to) throws IllegalArgumentException {
        Row row = arrayThere(a);
        checkRange(row, from, to);
        readValues(row, from, to, next, from);
        long total = 0;
        for (int i = from; i < to; i++) {
            total += next[i];
        }
        return total;
    }

    /** The least (what is 0) or the greatest (1) of a's values from .. to - 1. */
    public int bound(int a, int from, int to, int what) throws IllegalArgumentException {
        Row row = arrayThere(a);
        checkRange(row, from, to);
        if (what != LEAST && what != GREATEST) {
            throw new IllegalArgumentException("neither the least nor the greatest");
        }
        readValues(row, from, to, next, from);
        int best = what == LEAST ? GREATEST_INT : LEAST_INT;
        for (int i = from; i < to; i++) {
            best = what == LEAST ? Math.min(best, next[i]) : Math.max(best, next[i]);
        }
        return best;
    }

    /** The least index, from .. on, at which a has v; NONE if there is none. */
    public int find(int a, int from, int v) throws IllegalArgumentException {
        Row row = arrayThere(a);
        checkRange(row, from, row.length);
        readValues(row, from, row.length, next, from);
        for (int i = from; i < row.length; i++) {
            if (next[i] == v) {
                return i;
            }
        }
        return NONE;
    }

    /** The least index at which a and b differ, or at which only one has a value; NONE if they are alike. */
    public int difference(int a, int b) throws IllegalArgumentException {
        Row one = arrayThere(a);
        Row other = arrayThere(b);
        readValues(one, 0, one.length, next, 0);
        readValues(other, 0, other.length, spare, 0);
        int both = Math.min(one.length, other.length);
        for (int i = 0; i < both; i++) {
            if (next[i] != spare[i]) {
                return i;
            }
        }
        return one.length == other.length ? NONE : both;
    }

    /** How many OWN leaves there are. */
    public int used() {
        return PLACES - places.freeCount;
    }

    /** How many OWN leaves were ever made. */
    public int made() {
        return places.everTaken;
    }

    /** Leaf k of a: 0 CONSTANT, 1 OWN, 2 SHARED; NONE if there is none such. */
    public int leaf(int a, int k) {
        if (!isLeafThere(a, k)) {
            return NONE;
        }
        int place = rows[a].leafPlaces[k];
        if (place == NO_PLACE) {
            return CONSTANT;
        }
        return places.isShared(place) ? SHARED : OWN;
    }

    /** Whether leaf j of a and leaf k of b are one OWN leaf. */
    public boolean alike(int a, int j, int b, int k) {
        if (!isLeafThere(a, j) || !isLeafThere(b, k)) {
            return false;
        }
        int place = rows[a].leafPlaces[j];
        return place != NO_PLACE && place == rows[b].leafPlaces[k];
    }

    private boolean isThere(int a) {
        return a >= 0 && a < ARRAYS && rows[a].there;
    }

    private boolean isLeafThere(int a, int k) {
        return isThere(a) && k >= 0 && k < rows[a].leafCount();
    }

    private Row arrayThere(int a) {
        if (!isThere(a)) {
            throw new IllegalArgumentException("no such array");
        }
        return rows[a];
    }

    private int numberForNewArray() {
        for (int a = 0; a < ARRAYS; a++) {
            if (!rows[a].there) {
                return a;
            }
        }
        throw new IllegalStateException("all arrays are there");
    }

    private static void checkIndex(Row row, int i) {
        if (i < 0 || i >= row.length) {
            throw new IllegalArgumentException("no such index");
        }
    }

    private static void checkRange(Row row, int from, int to) {
        if (from < 0 || from > to || to > row.length) {
            throw new IllegalArgumentException("no such range");
        }
    }

    private void checkRoom(int wanted) {
        if (wanted > places.freeCount) {
            throw new IllegalStateException("no room");
        }
    }

    private static int leavesFor(int values) {
        return (values + LEAF_VALUES - 1) / LEAF_VALUES;
    }

    private void readValues(Row row, int from, int to, int[] target, int at) {
        for (int k = from / LEAF_VALUES; k < leavesFor(to); k++) {
            int start = Math.max(from, k * LEAF_VALUES);
            int end = Math.min(to, (k + 1) * LEAF_VALUES);
            int targetStart = at + start - from;
            int place = row.leafPlaces[k];
            if (place == NO_PLACE) {
                Arrays.fill(target, targetStart, targetStart + end - start, row.numbers[k]);
            } else {
                places.read(place, start % LEAF_VALUES, target, targetStart, end - start);
            }
        }
    }

    private void readLeaves(Row row, int first, int end) {
        int from = first * LEAF_VALUES;
        int to = Math.min(row.length, end * LEAF_VALUES);
        readValues(row, from, to, next, from);
    }

    private void fillValues(Row row, int from, int to, int v) {
        int first = from / LEAF_VALUES;
        int end = leavesFor(to);
        readLeaves(row, first, end);
        Arrays.fill(next, from, to, v);
        changeLeaves(row, first, end);
    }

    private void changeLeaves(Row row, int first, int end) {
        int wanted = 0;
        // All plans are made before the first one is carried out: whether a leaf is SHARED
        // is asked of the time before the call, and a refused call must change nothing.
        for (int k = first; k < end; k++) {
            plans[k] = planFor(row, k);
            if (plans[k] == BECOMES_NEW) {
                wanted++;
            }
        }
        checkRoom(wanted);
        for (int k = first; k < end; k++) {
            carryOut(plans[k], row, k);
        }
    }

    private int planFor(Row row, int k) {
        if (isLeafAsInNext(row, k)) {
            return STAYS;
        }
        if (isOneNumberInNext(k, row.length)) {
            return BECOMES_CONSTANT;
        }
        int place = row.leafPlaces[k];
        boolean unshared = place != NO_PLACE && !places.isShared(place);
        return unshared ? BECOMES_ITSELF : BECOMES_NEW;
    }

    private void carryOut(int plan, Row row, int k) {
        if (plan == BECOMES_CONSTANT) {
            setConstant(row, k, next[k * LEAF_VALUES]);
        } else if (plan == BECOMES_ITSELF) {
            places.write(row.leafPlaces[k], next, k * LEAF_VALUES, row.valuesIn(k));
        } else if (plan == BECOMES_NEW) {
            setOwn(row, k);
        }
    }

    private boolean isLeafAsInNext(Row row, int k) {
        int start = k * LEAF_VALUES;
        int place = row.leafPlaces[k];
        for (int i = 0; i < row.valuesIn(k); i++) {
            int before = place == NO_PLACE ? row.numbers[k] : places.valueAt(place, i);
            if (before != next[start + i]) {
                return false;
            }
        }
        return true;
    }

    private boolean isOneNumberInNext(int k, int length) {
        int start = k * LEAF_VALUES;
        int end = Math.min(length, start + LEAF_VALUES);
        for (int i = start + 1; i < end; i++) {
            if (next[i] != next[start]) {
                return false;
            }
        }
        return true;
    }

    private int countOwnInNext(int first, int length) {
        int count = 0;
        for (int k = first; k < leavesFor(length); k++) {
            if (!isOneNumberInNext(k, length)) {
                count++;
            }
        }
        return count;
    }

    private void newLeaves(Row row, int first) {
        for (int k = first; k < row.leafCount(); k++) {
            if (isOneNumberInNext(k, row.length)) {
                setConstant(row, k, next[k * LEAF_VALUES]);
            } else {
                setOwn(row, k);
            }
        }
    }

    private void shareLeaves(Row source, int sourceFirst, Row row, int first, int count) {
        for (int k = 0; k < count; k++) {
            int place = source.leafPlaces[sourceFirst + k];
            row.leafPlaces[first + k] = place;
            row.numbers[first + k] = source.numbers[sourceFirst + k];
            if (place != NO_PLACE) {
                places.addHolder(place);
            }
        }
    }

    private void setConstant(Row row, int k, int v) {
        letGo(row.leafPlaces[k]);
        row.leafPlaces[k] = NO_PLACE;
        row.numbers[k] = v;
    }

    private void setOwn(Row row, int k) {
        int place = places.take();
        places.write(place, next, k * LEAF_VALUES, row.valuesIn(k));
        letGo(row.leafPlaces[k]);
        row.leafPlaces[k] = place;
    }

    private void letGo(int place) {
        if (place != NO_PLACE) {
            places.dropHolder(place);
        }
    }

    private void sortNext(int count) {
        for (int width = 1; width < count; width = 2 * width) {
            for (int low = 0; low + width < count; low = low + 2 * width) {
                mergeInNext(low, low + width, Math.min(low + 2 * width, count));
            }
        }
    }

    private void mergeInNext(int low, int middle, int high) {
        if (next[middle - 1] <= next[middle]) {
            return;
        }
        System.arraycopy(next, low, spare, low, middle - low);
        int left = low;
        int right = middle;
        for (int i = low; i < high && left < middle; i++) {
            if (right < high && next[right] < spare[left]) {
                next[i] = next[right];
                right++;
            } else {
                next[i] = spare[left];
                left++;
            }
        }
    }

    /**
     * One array. Leaf k lies in leafPlaces[k], or is numbers[k] throughout if that is NO_PLACE;
     * leaves that aren't there have NO_PLACE too, so that a new array never lets go of a place.
     */
    private static final class Row {
        final int[] leafPlaces = new int[MOST_LEAVES];
        final int[] numbers = new int[MOST_LEAVES];
        boolean there = false;
        int length = 0;

        Row() {
            Arrays.fill(leafPlaces, NO_PLACE);
        }

        void begin(int newLength) {
            there = true;
            length = newLength;
        }

        int leafCount() {
            return leavesFor(length);
        }

        int valuesIn(int k) {
            return Math.min(LEAF_VALUES, length - k * LEAF_VALUES);
        }
    }

    /** The places of the OWN leaves, each with the number of leaves of arrays that it is. */
    private static final class Places {
        final int[] values = new int[PLACES * LEAF_VALUES];
        final int[] holders = new int[PLACES];
        final int[] free = new int[PLACES];
        int freeCount = PLACES;
        int everTaken = 0;

        Places() {
            for (int place = 0; place < PLACES; place++) {
                free[place] = place;
            }
        }

        // Its callers have looked with checkRoom that a place is free.
        int take() {
            freeCount--;
            everTaken++;
            int place = free[freeCount];
            holders[place] = 1;
            return place;
        }

        void addHolder(int place) {
            holders[place]++;
        }

        void dropHolder(int place) {
            holders[place]--;
            if (holders[place] == 0) {
                free[freeCount] = place;
                freeCount++;
            }
        }

        boolean isShared(int place) {
            return holders[place] > 1;
        }

        int valueAt(int place, int i) {
            return values[place * LEAF_VALUES + i];
        }

        void read(int place, int from, int[] target, int at, int count) {
            System.arraycopy(values, place * LEAF_VALUES + from, target, at, count);
        }

        void write(int place, int[] source, int from, int count) {
            System.arraycopy(source, from, values, place * LEAF_VALUES, count);
        }
    }
}
