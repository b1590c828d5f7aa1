import java.util.ArrayList;
import java.util.List;
import java.util.NoSuchElementException;
import java.util.Random;

/** Long runs of calls with fixed seeds, each answer beside that of a model written by the terms. */
public final class ModelTest {
    private static final int RUNS = 300;
    // What an object answers after 512 calls is free: 452 calls, then three for each entry looked at.
    private static final int CALLS = 452;
    private static final int LOOKED_AT = 20;
    private static final String[] NAMES =
            {"behind", "before", "weigh", "find", "sum", "next", "place", "entries"};

    private static final class Entry {
        final int number;
        int[] weights;

        Entry(int number, int first, int second) {
            this.number = number;
            weights = new int[] {first, second};
        }
    }

    /** Says in words of the document, not of the class, what a call answers. */
    private static final class Model {
        final List<Entry> row = new ArrayList<>();

        int placeOf(int number) {
            for (int place = 0; place < row.size(); place++) {
                if (row.get(place).number == number) {
                    return place;
                }
            }
            throw new NoSuchElementException();
        }

        static void inRange(int value, int least, int most) {
            if (value < least || value > most) {
                throw new IllegalArgumentException();
            }
        }

        void room(int n) {
            if (row.size() + n > 4000) {
                throw new IllegalStateException();
            }
        }

        int behind(int number, int n, int first, int second) {
            inRange(n, 1, 200);
            inRange(first, 0, 1000);
            inRange(second, 0, 1000);
            int place = number == -1 ? 0 : placeOf(number) + 1;
            room(n);
            for (int i = 0; i < n; i++) {
                row.add(place + i, new Entry(row.size(), first, second));
            }
            return row.size() - 1;
        }

        int before(int number, int first, int second) {
            inRange(first, 0, 1000);
            inRange(second, 0, 1000);
            int place = placeOf(number);
            room(1);
            row.add(place, new Entry(row.size(), first, second));
            return row.size() - 1;
        }

        int weigh(int number, int first, int second) {
            inRange(first, 0, 1000);
            inRange(second, 0, 1000);
            Entry entry = row.get(placeOf(number));
            int answer = entry.weights[0];
            entry.weights = new int[] {first, second};
            return answer;
        }

        int find(int rank) {
            int inFront = 0;
            for (Entry entry : row) {
                if (inFront <= rank && inFront + entry.weights[0] > rank) {
                    return entry.number;
                }
                inFront += entry.weights[0];
            }
            throw new NoSuchElementException();
        }

        int sum(int number, int which) {
            inRange(which, 0, 1);
            int end = number == -1 ? row.size() : placeOf(number);
            int sum = 0;
            for (Entry entry : row.subList(0, end)) {
                sum += entry.weights[which];
            }
            return sum;
        }

        int next(int number) {
            int place = number == -1 ? 0 : placeOf(number) + 1;
            if (place == row.size()) {
                throw new NoSuchElementException();
            }
            return row.get(place).number;
        }
    }

    public static void main(String[] args) {
        for (int seed = 0; seed < RUNS; seed++) {
            if (!runIsAsDue(seed)) {
                System.exit(1);
            }
        }
        System.out.println("model: all as due");
    }

    private static boolean runIsAsDue(int seed) {
        Random random = new Random(seed);
        RankRows x = new RankRows();
        Model model = new Model();
        int most = seed % 3 == 0 ? 200 : seed % 3 == 1 ? 12 : 2;
        int heaviest = seed % 2 == 0 ? 1000 : 2;
        for (int i = 0; i < CALLS; i++) {
            int call = random.nextInt(NAMES.length);
            int[] a = arguments(call, random, model, most, heaviest);
            String got = told(() -> ofClass(x, call, a));
            String want = told(() -> ofModel(model, call, a));
            if (!got.equals(want)) {
                System.out.println("seed " + seed + ", call " + i + ": " + NAMES[call] + " "
                        + java.util.Arrays.toString(a) + " answered " + got + ", due is " + want);
                return false;
            }
        }
        for (int i = 0; i < LOOKED_AT && !model.row.isEmpty(); i++) {
            int number = random.nextInt(model.row.size());
            if (!entryIsAlike(x, model, number)) {
                System.out.println("seed " + seed + ": entry " + number + " is not as due");
                return false;
            }
        }
        return true;
    }

    private static boolean entryIsAlike(RankRows x, Model model, int number) {
        return x.place(number) == model.placeOf(number)
                && x.sum(number, 0) == model.sum(number, 0)
                && x.sum(number, 1) == model.sum(number, 1);
    }

    private static int[] arguments(int call, Random random, Model model, int most, int heaviest) {
        int entry = near(random, -1, model.row.size() - 1);
        int first = near(random, 0, heaviest);
        int second = near(random, 0, heaviest);
        switch (call) {
            case 0: return new int[] {entry, near(random, 1, most), first, second};
            case 3: return new int[] {near(random, 0, Math.max(0, model.sum(-1, 0) - 1))};
            case 4: return new int[] {entry, near(random, 0, 1)};
            default: return new int[] {entry, first, second};
        }
    }

    /** Mostly a number of the range, at times one at its edges or outside. */
    private static int near(Random random, int least, int most) {
        switch (random.nextInt(40)) {
            case 0: return least - 1;
            case 1: return most + 1;
            case 2: return random.nextInt();
            case 3: return least;
            case 4: return most;
            default: return least + random.nextInt(Math.max(1, most - least + 1));
        }
    }

    private interface Call {
        int answer();
    }

    private static String told(Call call) {
        try {
            return Integer.toString(call.answer());
        } catch (RuntimeException e) {
            return e.getClass().getName();
        }
    }

    private static int ofClass(RankRows x, int call, int[] a) {
        switch (call) {
            case 0: return x.behind(a[0], a[1], a[2], a[3]);
            case 1: return x.before(a[0], a[1], a[2]);
            case 2: return x.weigh(a[0], a[1], a[2]);
            case 3: return x.find(a[0]);
            case 4: return x.sum(a[0], a[1]);
            case 5: return x.next(a[0]);
            case 6: return x.place(a[0]);
            default: return x.entries();
        }
    }

    private static int ofModel(Model model, int call, int[] a) {
        switch (call) {
            case 0: return model.behind(a[0], a[1], a[2], a[3]);
            case 1: return model.before(a[0], a[1], a[2]);
            case 2: return model.weigh(a[0], a[1], a[2]);
            case 3: return model.find(a[0]);
            case 4: return model.sum(a[0], a[1]);
            case 5: return model.next(a[0]);
            case 6: return model.placeOf(a[0]);
            default: return model.row.size();
        }
    }
}
