import java.util.NoSuchElementException;

/**
 * A row of entries with two weights each, in which one can put entries anywhere, change weights,
 * and ask which entry a rank falls on and how much weight is in front of one.
 */
public final class RankRows {
    private static final int MOST_ENTRIES = 4000;
    private static final int MOST_AT_ONCE = 200;
    private static final int HEAVIEST = 1000;
    private static final int NO_ENTRY = -1;

    // row tells the entry at a place; the weights go by the entry's number, so that they
    // need not move when entries are put in front of it.
    private final int[] row;
    private final int[] firsts;
    private final int[] seconds;
    private int count;

    public RankRows() {
        row = new int[MOST_ENTRIES];
        firsts = new int[MOST_ENTRIES];
        seconds = new int[MOST_ENTRIES];
        count = 0;
    }

    public int behind(int entry, int n, int first, int second)
            throws IllegalArgumentException, NoSuchElementException, IllegalStateException {
        if (n < 1 || n > MOST_AT_ONCE) {
            throw new IllegalArgumentException("n is not in 1 .. 200");
        }
        checkWeights(first, second);
        checkEntryOrNone(entry);
        checkRoomFor(n);
        putAt(placeBehind(entry), n, first, second);
        return count - 1;
    }

    public int before(int entry, int first, int second)
            throws IllegalArgumentException, NoSuchElementException, IllegalStateException {
        checkWeights(first, second);
        checkEntry(entry);
        checkRoomFor(1);
        putAt(placeOf(entry), 1, first, second);
        return count - 1;
    }

    public int weigh(int entry, int first, int second)
            throws IllegalArgumentException, NoSuchElementException {
        checkWeights(first, second);
        checkEntry(entry);
        int firstBefore = firsts[entry];
        firsts[entry] = first;
        seconds[entry] = second;
        return firstBefore;
    }

    public int find(int rank) throws NoSuchElementException {
        // A rank below 0 would fall on the first entry in the loop, as every sum is above it.
        if (rank < 0) {
            throw new NoSuchElementException("a rank is not below 0");
        }
        int sum = 0;
        for (int place = 0; place < count; place++) {
            sum += firsts[row[place]];
            if (sum > rank) {
                return row[place];
            }
        }
        throw new NoSuchElementException("the rank falls on no entry");
    }

    public int sum(int entry, int which) throws IllegalArgumentException, NoSuchElementException {
        if (which != 0 && which != 1) {
            throw new IllegalArgumentException("which is not 0 or 1");
        }
        checkEntryOrNone(entry);
        int end = entry == NO_ENTRY ? count : placeOf(entry);
        return sumInFrontOf(end, which == 0 ? firsts : seconds);
    }

    public int next(int entry) throws NoSuchElementException {
        checkEntryOrNone(entry);
        int place = placeBehind(entry);
        if (place >= count) {
            throw new NoSuchElementException("no entry stands there");
        }
        return row[place];
    }

    public int place(int entry) throws NoSuchElementException {
        checkEntry(entry);
        return placeOf(entry);
    }

    public int entries() {
        return count;
    }

    private static void checkWeights(int first, int second) {
        if (first < 0 || first > HEAVIEST || second < 0 || second > HEAVIEST) {
            throw new IllegalArgumentException("a weight is not in 0 .. 1000");
        }
    }

    private void checkEntry(int entry) {
        if (entry < 0 || entry >= count) {
            throw new NoSuchElementException("there is no such entry");
        }
    }

    private void checkEntryOrNone(int entry) {
        if (entry != NO_ENTRY) {
            checkEntry(entry);
        }
    }

    private void checkRoomFor(int n) {
        if (n > MOST_ENTRIES - count) {
            throw new IllegalStateException("there would be too many entries");
        }
    }

    private int placeOf(int entry) {
        int place = 0;
        while (place < count && row[place] != entry) {
            place++;
        }
        return place;
    }

    private int placeBehind(int entry) {
        return entry == NO_ENTRY ? 0 : placeOf(entry) + 1;
    }

    private int sumInFrontOf(int end, int[] weights) {
        int sum = 0;
        for (int place = 0; place < end; place++) {
            sum += weights[row[place]];
        }
        return sum;
    }

    private void putAt(int place, int n, int first, int second) {
        System.arraycopy(row, place, row, place + n, count - place);
        for (int i = 0; i < n; i++) {
            int entry = count + i;
            row[place + i] = entry;
            firsts[entry] = first;
            seconds[entry] = second;
        }
        count += n;
    }
}
