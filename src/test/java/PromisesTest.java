/** What the document promises, promise by promise: ordinary inputs, edges and wrong inputs. */
public final class PromisesTest extends Due {
    public static void main(String[] args) {
        newObject();
        objectsAreApart();
        behindPutsEntries();
        behindRefuses();
        behindTestsInOrder();
        behindFillsTheRow();
        beforePutsEntries();
        beforeRefuses();
        beforeFillsTheRow();
        weighChangesBothWeights();
        weighRefuses();
        findFallsOnEntries();
        findPassesEntriesWithoutWeight();
        findRefuses();
        sumOfBothWeights();
        sumAtItsGreatest();
        sumRefuses();
        nextGoesAlongTheRow();
        nextRefuses();
        placeCountsEntries();
        placeRefuses();
        entriesCounts();
        end("promises");
    }

    // Promise 1

    private static void newObject() {
        RankRows x = new RankRows();
        due("1: entries()", x.entries(), 0);
        due("1: sum(-1, 0)", x.sum(-1, 0), 0);
        due("1: sum(-1, 1)", x.sum(-1, 1), 0);
        dueThrow("1: next(-1)", ELEMENT, () -> x.next(-1));
        dueThrow("1: next(0)", ELEMENT, () -> x.next(0));
        dueThrow("1: find(0)", ELEMENT, () -> x.find(0));
        dueThrow("1: place(0)", ELEMENT, () -> x.place(0));
        dueThrow("1: sum(0, 0)", ELEMENT, () -> x.sum(0, 0));
        dueThrow("1: weigh(0, 1, 1)", ELEMENT, () -> x.weigh(0, 1, 1));
        dueThrow("1: before(0, 1, 1)", ELEMENT, () -> x.before(0, 1, 1));
        dueThrow("1: behind(0, 1, 1, 1)", ELEMENT, () -> x.behind(0, 1, 1, 1));
        dueRow("1", x);
    }

    private static void objectsAreApart() {
        RankRows x = new RankRows();
        RankRows y = new RankRows();
        x.behind(-1, 3, 4, 5);
        dueRow("1: another object", y);
        y.behind(-1, 1, 9, 8);
        dueRow("1: the first object", x, 0, 1, 2);
        due("1: first object's sum", x.sum(-1, 0), 12);
        due("1: other object's sum", y.sum(-1, 0), 9);
    }

    // Promise 2

    private static void behindPutsEntries() {
        RankRows x = new RankRows();
        due("2: the first one", x.behind(-1, 1, 1, 2), 0);
        due("2: at the end", x.behind(0, 3, 10, 20), 3);
        dueRow("2: at the end", x, 0, 1, 2, 3);
        due("2: in the middle", x.behind(1, 2, 100, 200), 5);
        dueRow("2: in the middle", x, 0, 1, 4, 5, 2, 3);
        due("2: before all", x.behind(-1, 2, 1000, 0), 7);
        dueRow("2: before all", x, 6, 7, 0, 1, 4, 5, 2, 3);
        dueWeights("2: 0", x, 0, 1, 2);
        dueWeights("2: 3", x, 3, 10, 20);
        dueWeights("2: 4", x, 4, 100, 200);
        dueWeights("2: 5", x, 5, 100, 200);
        dueWeights("2: 6", x, 6, 1000, 0);
        due("2: most at once", x.behind(3, 200, 0, 1000), 207);
        due("2: entries", x.entries(), 208);
        dueWeights("2: 207", x, 207, 0, 1000);
    }

    private static void behindRefuses() {
        RankRows x = three();
        for (int n : new int[] {0, -1, 201, MIN, MAX}) {
            dueThrow("2: n " + n, ARGUMENT, () -> x.behind(1, n, 1, 1));
        }
        for (int weight : new int[] {-1, 1001, MIN, MAX}) {
            dueThrow("2: first " + weight, ARGUMENT, () -> x.behind(1, 1, weight, 1));
            dueThrow("2: second " + weight, ARGUMENT, () -> x.behind(1, 1, 1, weight));
        }
        for (int entry : new int[] {3, -2, 3999, 4000, MIN, MAX}) {
            dueThrow("2: entry " + entry, ELEMENT, () -> x.behind(entry, 1, 1, 1));
        }
        dueUntouchedThree("2", x);
        due("2: numbers go on after throws", x.behind(2, 1, 1, 1), 3);
    }

    private static void behindTestsInOrder() {
        RankRows x = full();
        dueThrow("2: n before entry", ARGUMENT, () -> x.behind(4000, 0, 1, 1));
        dueThrow("2: n before room", ARGUMENT, () -> x.behind(0, 201, 1, 1));
        dueThrow("2: first before entry", ARGUMENT, () -> x.behind(-2, 1, 1001, 1));
        dueThrow("2: second before entry", ARGUMENT, () -> x.behind(-2, 1, 1, -1));
        dueThrow("2: first before room", ARGUMENT, () -> x.behind(0, 1, -1, 1));
        dueThrow("2: entry before room", ELEMENT, () -> x.behind(4000, 1, 1, 1));
        dueThrow("2: entry below -1 before room", ELEMENT, () -> x.behind(-2, 1, 1, 1));
    }

    private static void behindFillsTheRow() {
        RankRows x = new RankRows();
        for (int i = 0; i < 19; i++) {
            due("2: filling", x.behind(-1, 200, 1, 1), 200 * i + 199);
        }
        due("2: filling", x.behind(0, 199, 1, 1), 3998);
        dueThrow("2: one too many", STATE, () -> x.behind(-1, 2, 1, 1));
        dueThrow("2: many too many", STATE, () -> x.behind(3998, 200, 1, 1));
        due("2: nothing changed", x.entries(), 3999);
        due("2: nothing changed", x.sum(-1, 0), 3999);
        due("2: the last one there can be", x.behind(3998, 1, 7, 1), 3999);
        due("2: its place", x.place(3999), x.place(3998) + 1);
        dueThrow("2: full", STATE, () -> x.behind(-1, 1, 1, 1));
        dueThrow("2: full, behind an entry", STATE, () -> x.behind(3999, 1, 1, 1));
        due("2: full", x.entries(), 4000);
        due("2: full", x.sum(-1, 0), 4006);
    }

    // Promise 3

    private static void beforePutsEntries() {
        RankRows x = three();
        due("3: before the first", x.before(0, 4, 5), 3);
        dueRow("3: before the first", x, 3, 0, 1, 2);
        due("3: before the last", x.before(2, 0, 1000), 4);
        dueRow("3: before the last", x, 3, 0, 1, 4, 2);
        due("3: before a new one", x.before(4, 1000, 0), 5);
        dueRow("3: before a new one", x, 3, 0, 1, 5, 4, 2);
        dueWeights("3: 3", x, 3, 4, 5);
        dueWeights("3: 4", x, 4, 0, 1000);
        dueWeights("3: 5", x, 5, 1000, 0);
        dueWeights("3: 2", x, 2, 7, 8);
    }

    private static void beforeRefuses() {
        RankRows x = three();
        for (int weight : new int[] {-1, 1001, MIN, MAX}) {
            dueThrow("3: first " + weight, ARGUMENT, () -> x.before(1, weight, 1));
            dueThrow("3: second " + weight, ARGUMENT, () -> x.before(1, 1, weight));
            dueThrow("3: weight before entry", ARGUMENT, () -> x.before(3, weight, 1));
            dueThrow("3: weight before entry", ARGUMENT, () -> x.before(-1, 1, weight));
        }
        for (int entry : new int[] {3, -1, -2, 3999, 4000, MIN, MAX}) {
            dueThrow("3: entry " + entry, ELEMENT, () -> x.before(entry, 1, 1));
        }
        dueUntouchedThree("3", x);
        due("3: numbers go on after throws", x.before(2, 1, 1), 3);
    }

    private static void beforeFillsTheRow() {
        RankRows x = new RankRows();
        for (int i = 0; i < 19; i++) {
            x.behind(-1, 200, 1, 1);
        }
        x.behind(-1, 199, 1, 1);
        due("3: the last one there can be", x.before(0, 1, 1), 3999);
        dueThrow("3: full", STATE, () -> x.before(0, 1, 1));
        dueThrow("3: weight before room", ARGUMENT, () -> x.before(0, 1001, 1));
        dueThrow("3: entry before room", ELEMENT, () -> x.before(4000, 1, 1));
        dueThrow("3: no -1, before room", ELEMENT, () -> x.before(-1, 1, 1));
        due("3: full", x.entries(), 4000);
        due("3: full", x.next(3999), 0);
    }

    // Promise 4

    private static void weighChangesBothWeights() {
        RankRows x = three();
        due("4: answers the first before", x.weigh(1, 1000, 0), 7);
        dueWeights("4: 1", x, 1, 1000, 0);
        due("4: again", x.weigh(1, 0, 1000), 1000);
        dueWeights("4: 1 again", x, 1, 0, 1000);
        due("4: from 0", x.weigh(1, 3, 4), 0);
        dueWeights("4: the one in front", x, 0, 7, 8);
        dueWeights("4: the one behind", x, 2, 7, 8);
        due("4: sum behind it", x.sum(2, 0), 10);
        due("4: sum behind it", x.sum(2, 1), 12);
        dueRow("4", x, 0, 1, 2);
        x.before(0, 50, 60);
        due("4: goes by number, not by place", x.weigh(0, 1, 1), 7);
        dueWeights("4: 3 stays", x, 3, 50, 60);
    }

    private static void weighRefuses() {
        RankRows x = three();
        for (int weight : new int[] {-1, 1001, MIN, MAX}) {
            dueThrow("4: first " + weight, ARGUMENT, () -> x.weigh(1, weight, 1));
            dueThrow("4: second " + weight, ARGUMENT, () -> x.weigh(1, 1, weight));
            dueThrow("4: weight before entry", ARGUMENT, () -> x.weigh(3, weight, 1));
            dueThrow("4: weight before entry", ARGUMENT, () -> x.weigh(-1, 1, weight));
        }
        for (int entry : new int[] {3, -1, -2, 3999, 4000, MIN, MAX}) {
            dueThrow("4: entry " + entry, ELEMENT, () -> x.weigh(entry, 1, 1));
        }
        dueUntouchedThree("4", x);
    }

    // Promise 5

    private static void findFallsOnEntries() {
        RankRows x = three();
        x.before(1, 2, 900);
        int[] due = {0, 0, 0, 0, 0, 0, 0, 3, 3, 1, 1, 1, 1, 1, 1, 1, 2, 2, 2, 2, 2, 2, 2};
        for (int rank = 0; rank < due.length; rank++) {
            due("5: find(" + rank + ")", x.find(rank), due[rank]);
        }
        dueThrow("5: behind all", ELEMENT, () -> x.find(due.length));
    }

    private static void findPassesEntriesWithoutWeight() {
        RankRows x = new RankRows();
        x.behind(-1, 5, 0, 9);
        dueThrow("5: no weight at all", ELEMENT, () -> x.find(0));
        x.weigh(2, 1, 0);
        due("5: the only weight", x.find(0), 2);
        dueThrow("5: behind the only weight", ELEMENT, () -> x.find(1));
        x.weigh(4, 1, 0);
        due("5: not on one without weight", x.find(1), 4);
        dueThrow("5: behind all", ELEMENT, () -> x.find(2));
    }

    private static void findRefuses() {
        RankRows x = three();
        for (int rank : new int[] {-1, -2, 21, 22, MIN, MAX}) {
            dueThrow("5: rank " + rank, ELEMENT, () -> x.find(rank));
        }
        dueUntouchedThree("5", x);
    }

    // Promise 6

    private static void sumOfBothWeights() {
        RankRows x = new RankRows();
        x.behind(-1, 1, 1, 10);
        x.behind(0, 1, 2, 20);
        x.behind(0, 1, 4, 40);
        due("6: of the first", x.sum(0, 0), 0);
        due("6: of the first", x.sum(0, 1), 0);
        due("6: of the second", x.sum(2, 0), 1);
        due("6: of the second", x.sum(2, 1), 10);
        due("6: of the last", x.sum(1, 0), 5);
        due("6: of the last", x.sum(1, 1), 50);
        due("6: of all", x.sum(-1, 0), 7);
        due("6: of all", x.sum(-1, 1), 70);
    }

    private static void sumAtItsGreatest() {
        RankRows x = full();
        due("6: of all", x.sum(-1, 0), 4_000_000);
        due("6: of all", x.sum(-1, 1), 4_000_000);
        int last = x.find(3_999_999);
        due("6: in front of the last", x.sum(last, 1), 3_999_000);
        dueThrow("5: behind the last", ELEMENT, () -> x.find(4_000_000));
    }

    private static void sumRefuses() {
        RankRows x = three();
        for (int which : new int[] {-1, 2, MIN, MAX}) {
            dueThrow("6: which " + which, ARGUMENT, () -> x.sum(1, which));
            dueThrow("6: which of all " + which, ARGUMENT, () -> x.sum(-1, which));
            dueThrow("6: which before entry", ARGUMENT, () -> x.sum(3, which));
        }
        for (int entry : new int[] {3, -2, 3999, 4000, MIN, MAX}) {
            dueThrow("6: entry " + entry, ELEMENT, () -> x.sum(entry, 0));
            dueThrow("6: entry " + entry, ELEMENT, () -> x.sum(entry, 1));
        }
        dueUntouchedThree("6", x);
    }

    // Promise 7

    private static void nextGoesAlongTheRow() {
        RankRows x = three();
        x.before(0, 1, 1);
        x.behind(1, 1, 1, 1);
        due("7: the first", x.next(-1), 3);
        due("7: behind 3", x.next(3), 0);
        due("7: behind 0", x.next(0), 1);
        due("7: behind 1", x.next(1), 4);
        due("7: behind 4", x.next(4), 2);
        dueThrow("7: none behind the last", ELEMENT, () -> x.next(2));
    }

    private static void nextRefuses() {
        RankRows x = three();
        for (int entry : new int[] {2, 3, -2, 3999, 4000, MIN, MAX}) {
            dueThrow("7: entry " + entry, ELEMENT, () -> x.next(entry));
        }
        dueUntouchedThree("7", x);
        RankRows y = full();
        dueThrow("7: none behind the last of a full row", ELEMENT, () -> y.next(y.find(3_999_999)));
    }

    // Promise 8

    private static void placeCountsEntries() {
        RankRows x = three();
        due("8: the first", x.place(0), 0);
        due("8: the last", x.place(2), 2);
        x.behind(-1, 10, 0, 0);
        due("8: moved back", x.place(0), 10);
        due("8: moved back", x.place(2), 12);
        due("8: a new one", x.place(3), 0);
        due("8: a new one", x.place(12), 9);
        x.before(2, 0, 0);
        due("8: not moved", x.place(1), 11);
        due("8: moved by before", x.place(2), 13);
    }

    private static void placeRefuses() {
        RankRows x = three();
        for (int entry : new int[] {3, -1, -2, 3999, 4000, MIN, MAX}) {
            dueThrow("8: entry " + entry, ELEMENT, () -> x.place(entry));
        }
        dueUntouchedThree("8", x);
        RankRows y = full();
        due("8: last of a full row", y.place(y.find(3_999_999)), 3999);
    }

    // Promise 9

    private static void entriesCounts() {
        RankRows x = new RankRows();
        due("9: none", x.entries(), 0);
        x.behind(-1, 200, 1, 1);
        due("9: after behind", x.entries(), 200);
        x.before(7, 1, 1);
        due("9: after before", x.entries(), 201);
        x.weigh(7, 0, 0);
        due("9: after weigh", x.entries(), 201);
        due("9: full", full().entries(), 4000);
    }
}
