import java.util.NoSuchElementException;

/**
 * What the tests hold an object against; each answer that is not the one that is due is told.
 * Tests extend it, as a class without a package cannot be imported.
 */
abstract class Due {
    static final int MIN = Integer.MIN_VALUE;
    static final int MAX = Integer.MAX_VALUE;

    static final Class<?> ARGUMENT = IllegalArgumentException.class;
    static final Class<?> ELEMENT = NoSuchElementException.class;
    static final Class<?> STATE = IllegalStateException.class;

    private static int wrong = 0;

    interface Call {
        int answer();
    }

    static int wrongSoFar() {
        return wrong;
    }

    static void end(String name) {
        System.out.println(name + (wrong == 0 ? ": all as due" : ": " + wrong + " not as due"));
        if (wrong != 0) {
            System.exit(1);
        }
    }

    static void tell(String what) {
        wrong++;
        System.out.println(what);
    }

    static void due(String what, int got, int want) {
        if (got != want) {
            tell(what + " answered " + got + ", due is " + want);
        }
    }

    static void dueThrow(String what, Class<?> want, Call call) {
        String got;
        try {
            got = "answered " + call.answer();
        } catch (RuntimeException e) {
            if (e.getClass() == want) {
                return;
            }
            got = "threw " + e.getClass().getName();
        }
        tell(what + " " + got + ", due is " + want.getName());
    }

    static void dueRow(String what, RankRows x, int... row) {
        due(what + ", entries", x.entries(), row.length);
        int entry = -1;
        for (int place = 0; place < row.length; place++) {
            due(what + ", next(" + entry + ")", x.next(entry), row[place]);
            due(what + ", place(" + row[place] + ")", x.place(row[place]), place);
            entry = row[place];
        }
        int last = entry;
        dueThrow(what + ", next(" + last + ")", ELEMENT, () -> x.next(last));
    }

    static void dueWeights(String what, RankRows x, int entry, int first, int second) {
        due(what + ", first weight", weight(x, entry, 0), first);
        due(what + ", second weight", weight(x, entry, 1), second);
    }

    private static int weight(RankRows x, int entry, int which) {
        boolean isLast = x.place(entry) == x.entries() - 1;
        int end = isLast ? x.sum(-1, which) : x.sum(x.next(entry), which);
        return end - x.sum(entry, which);
    }

    /** Entries 0, 1, 2 in this order, each with the weights 7 and 8. */
    static RankRows three() {
        RankRows x = new RankRows();
        x.behind(-1, 3, 7, 8);
        return x;
    }

    static void dueUntouchedThree(String what, RankRows x) {
        dueRow(what + ": untouched", x, 0, 1, 2);
        for (int entry = 0; entry < 3; entry++) {
            dueWeights(what + ": untouched", x, entry, 7, 8);
        }
    }

    /** Entries 3800 .. 3999, 3600 .. 3799 and so on to 0 .. 199, each with the weights 1000 and 1000. */
    static RankRows full() {
        return withRoomFor(0);
    }

    /** So many short of full, in the order of full(); the room is below 200. */
    static RankRows withRoomFor(int room) {
        RankRows x = new RankRows();
        for (int i = 0; i < 19; i++) {
            x.behind(-1, 200, 1000, 1000);
        }
        x.behind(-1, 200 - room, 1000, 1000);
        return x;
    }
}
