/**
 * Each sentence of the document that names a boundary case, with a test of its own. What a test
 * bears as its title is the sentence's words; no object is used for more than 512 calls.
 */
public final class BoundariesTest extends Due {
    private static final int[] NOT_WEIGHTS = {-1, 1001, MIN, MAX};

    public static void main(String[] args) {
        whatItIs();
        terms();
        refusedCalls();
        making();
        asking();
        end("boundaries");
    }

    private static void whatItIs() {
        test("at most 512 calls: the last of them makes", BoundariesTest::call512Makes);
        test("at most 512 calls: the last of them asks", BoundariesTest::call512Asks);
        test("at most 512 calls: 511 refused ones", BoundariesTest::call512AfterRefusedOnes);
    }

    private static void terms() {
        test("entries are numbered from 0 as they are made", BoundariesTest::numberedFrom0);
        test("at most 4000: all of them are there", BoundariesTest::all4000AreThere);
        test("at most 4000: behind makes no more", BoundariesTest::behindMakesNoMoreThan4000);
        test("at most 4000: before makes no more", BoundariesTest::beforeMakesNoMoreThan4000);
        test("at most 4000: a full row still weighs", BoundariesTest::fullRowWeighs);
        test("they stand in a row, none at first", BoundariesTest::noneAtFirst);
        test("weights, 0 .. 1000: behind", BoundariesTest::weightsOfBehind);
        test("weights, 0 .. 1000: before", BoundariesTest::weightsOfBefore);
        test("weights, 0 .. 1000: weigh", BoundariesTest::weightsOfWeigh);
        test("the sum in front is not above the rank", BoundariesTest::sumInFrontIsNotAbove);
        test("together with its own is above it", BoundariesTest::withItsOwnIsAbove);
        test("a rank falls on no entry of weight 0", BoundariesTest::notOnWeight0);
        test("first weights, not second ones, bear a rank", BoundariesTest::secondsBearNoRank);
    }

    private static void refusedCalls() {
        test("order of testing: behind", BoundariesTest::orderOfBehind);
        test("order of testing: before", BoundariesTest::orderOfBefore);
        test("order of testing: weigh", BoundariesTest::orderOfWeigh);
        test("order of testing: sum", BoundariesTest::orderOfSum);
        test("an entry below -1 is no number out of its range", BoundariesTest::entryBelowMinus1);
        test("an entry below 0 is no number out of its range", BoundariesTest::entryBelow0);
        test("a rank below 0 is no number out of its range", BoundariesTest::rankBelow0);
        test("a call that throws changes nothing: a number", BoundariesTest::badNumberChangesNothing);
        test("a call that throws changes nothing: an entry", BoundariesTest::badEntryChangesNothing);
        test("a call that throws changes nothing: too many", BoundariesTest::tooManyChangesNothing);
        test("a call that throws changes nothing: empty", BoundariesTest::emptyRowStaysEmpty);
    }

    private static void making() {
        test("behind: n (1 .. 200), the edges", BoundariesTest::behindAtTheEdgesOfN);
        test("behind: n (1 .. 200), too small", BoundariesTest::behindTooFew);
        test("behind: n (1 .. 200), too large", BoundariesTest::behindTooManyAtOnce);
        test("behind: one behind the other", BoundariesTest::behindOneBehindTheOther);
        test("behind: behind an entry, the last one too", BoundariesTest::behindTheLast);
        test("behind: before all for -1, empty", BoundariesTest::behindBeforeAllOfNone);
        test("behind: before all for -1, not empty", BoundariesTest::behindBeforeAllOfSome);
        test("behind: answers the number of the last one", BoundariesTest::behindAnswersTheLast);
        test("behind: there is no such entry", BoundariesTest::behindNoSuchEntry);
        test("behind: there would be too many", BoundariesTest::behindWouldBeTooMany);
        test("behind: there would be just enough", BoundariesTest::behindFillsJustUp);
        test("before: stands before another one, the first too", BoundariesTest::beforeTheFirst);
        test("before: there is no such entry", BoundariesTest::beforeNoSuchEntry);
        test("before: there would be too many", BoundariesTest::beforeWouldBeTooMany);
        test("weigh: has these weights from then on", BoundariesTest::weighFromThenOn);
        test("weigh: answers its first one before", BoundariesTest::weighAnswersTheFirstBefore);
        test("weigh: there is no such entry", BoundariesTest::weighNoSuchEntry);
    }

    private static void asking() {
        test("find: a rank (from 0)", BoundariesTest::findRank0);
        test("find: there is none, behind all", BoundariesTest::findBehindAll);
        test("find: there is none, empty", BoundariesTest::findInEmptyRow);
        test("find: there is none, no weight", BoundariesTest::findWithoutWeight);
        test("sum: which: 0 or 1", BoundariesTest::sumWhich);
        test("sum: in front of one, the first and the last", BoundariesTest::sumAtBothEnds);
        test("sum: of all there are for -1", BoundariesTest::sumOfAll);
        test("sum: of all there are for -1, none", BoundariesTest::sumOfNone);
        test("sum: of all there are for -1, full", BoundariesTest::sumOfFull);
        test("sum: there is no such entry", BoundariesTest::sumNoSuchEntry);
        test("next: the first for -1", BoundariesTest::nextIsTheFirst);
        test("next: there is no such entry", BoundariesTest::nextNoSuchEntry);
        test("next: none behind it", BoundariesTest::nextNoneBehind);
        test("next: the first for -1, empty", BoundariesTest::nextInEmptyRow);
        test("place: how many stand in front, none and all", BoundariesTest::placeAtBothEnds);
        test("place: there is no such entry", BoundariesTest::placeNoSuchEntry);
        test("entries: how many there are, none to 4000", BoundariesTest::entriesFromNoneToFull);
    }

    // An object is used for at most 512 calls after it has been made

    private static void call512Makes() {
        RankRows x = new RankRows();
        for (int i = 0; i < 511; i++) {
            x.behind(i - 1, 1, 1, 1);
        }
        due("call 512: behind", x.behind(510, 1, 1, 1), 511);
    }

    private static void call512Asks() {
        RankRows x = full();
        for (int i = 0; i < 491; i++) {
            due("calls 21 to 511: find", x.find(3_999_999 - i), 199);
        }
        due("call 512: sum", x.sum(199, 0), 3_999_000);
    }

    private static void call512AfterRefusedOnes() {
        RankRows x = new RankRows();
        for (int i = 0; i < 511; i++) {
            dueThrow("refused", ARGUMENT, () -> x.behind(-1, 201, 1, 1));
        }
        due("call 512: behind", x.behind(-1, 200, 1, 1), 199);
    }

    // Terms: entries, row, weights, rank

    private static void numberedFrom0() {
        RankRows x = new RankRows();
        due("the first one", x.behind(-1, 1, 1, 1), 0);
        due("one more, in front", x.behind(-1, 1, 1, 1), 1);
        due("one more, before", x.before(1, 1, 1), 2);
        due("three more", x.behind(2, 3, 1, 1), 5);
        due("the next one", x.before(0, 1, 1), 6);
        dueThrow("refused", ARGUMENT, () -> x.before(0, 1, 1001));
        dueThrow("refused", ELEMENT, () -> x.before(7, 1, 1));
        due("a refused call takes no number", x.before(0, 1, 1), 7);
    }

    private static void all4000AreThere() {
        RankRows x = full();
        due("entries", x.entries(), 4000);
        due("the greatest number: next", x.next(3999), 3600);
        due("the greatest number: place", x.place(3999), 199);
        due("the greatest number: sum", x.sum(3999, 0), 199_000);
        due("the greatest number: find", x.find(199_999), 3999);
        dueThrow("one above: next", ELEMENT, () -> x.next(4000));
        dueThrow("one above: place", ELEMENT, () -> x.place(4000));
        dueThrow("one above: sum", ELEMENT, () -> x.sum(4000, 0));
        dueThrow("one above: weigh", ELEMENT, () -> x.weigh(4000, 1, 1));
    }

    private static void behindMakesNoMoreThan4000() {
        RankRows x = withRoomFor(1);
        due("number 4000", x.behind(3998, 1, 0, 0), 3999);
        dueThrow("number 4001, before all", STATE, () -> x.behind(-1, 1, 0, 0));
        dueThrow("number 4001, behind the last made", STATE, () -> x.behind(3999, 1, 0, 0));
        dueThrow("number 4001, behind the last of the row", STATE, () -> x.behind(199, 1, 0, 0));
        due("entries", x.entries(), 4000);
    }

    private static void beforeMakesNoMoreThan4000() {
        RankRows x = withRoomFor(1);
        due("number 4000", x.before(0, 0, 0), 3999);
        dueThrow("number 4001, before the first", STATE, () -> x.before(3800, 0, 0));
        dueThrow("number 4001, before the last made", STATE, () -> x.before(3999, 0, 0));
        due("entries", x.entries(), 4000);
    }

    private static void fullRowWeighs() {
        RankRows x = full();
        due("weigh", x.weigh(3999, 0, 1), 1000);
        due("weigh again", x.weigh(3999, 1000, 1), 0);
        due("weigh the first made", x.weigh(0, 999, 1), 1000);
        due("sum of the first ones", x.sum(-1, 0), 3_999_999);
        due("sum of the second ones", x.sum(-1, 1), 3_998_002);
    }

    private static void noneAtFirst() {
        RankRows x = new RankRows();
        due("entries", x.entries(), 0);
        due("sum", x.sum(-1, 0), 0);
        dueThrow("next(-1)", ELEMENT, () -> x.next(-1));
        dueThrow("place(0)", ELEMENT, () -> x.place(0));
        dueThrow("find(0)", ELEMENT, () -> x.find(0));
        dueThrow("weigh(0, 0, 0)", ELEMENT, () -> x.weigh(0, 0, 0));
        dueThrow("before(0, 0, 0)", ELEMENT, () -> x.before(0, 0, 0));
        dueThrow("behind(0, 1, 0, 0)", ELEMENT, () -> x.behind(0, 1, 0, 0));
    }

    private static void weightsOfBehind() {
        RankRows x = three();
        x.behind(1, 1, 0, 1000);
        dueWeights("least and most", x, 3, 0, 1000);
        x.behind(1, 1, 1000, 0);
        dueWeights("most and least", x, 4, 1000, 0);
        for (int weight : NOT_WEIGHTS) {
            dueThrow("first " + weight, ARGUMENT, () -> x.behind(1, 1, weight, 1));
            dueThrow("second " + weight, ARGUMENT, () -> x.behind(1, 1, 1, weight));
        }
    }

    private static void weightsOfBefore() {
        RankRows x = three();
        x.before(1, 0, 1000);
        dueWeights("least and most", x, 3, 0, 1000);
        x.before(1, 1000, 0);
        dueWeights("most and least", x, 4, 1000, 0);
        for (int weight : NOT_WEIGHTS) {
            dueThrow("first " + weight, ARGUMENT, () -> x.before(1, weight, 1));
            dueThrow("second " + weight, ARGUMENT, () -> x.before(1, 1, weight));
        }
    }

    private static void weightsOfWeigh() {
        RankRows x = three();
        x.weigh(1, 0, 1000);
        dueWeights("least and most", x, 1, 0, 1000);
        x.weigh(1, 1000, 0);
        dueWeights("most and least", x, 1, 1000, 0);
        for (int weight : NOT_WEIGHTS) {
            dueThrow("first " + weight, ARGUMENT, () -> x.weigh(1, weight, 1));
            dueThrow("second " + weight, ARGUMENT, () -> x.weigh(1, 1, weight));
        }
    }

    private static void sumInFrontIsNotAbove() {
        RankRows x = three();
        due("the rank is what is in front of 0", x.find(0), 0);
        due("the rank is what is in front of 1", x.find(7), 1);
        due("the rank is what is in front of 2", x.find(14), 2);
    }

    private static void withItsOwnIsAbove() {
        RankRows x = three();
        due("one below what 0 and all in front have", x.find(6), 0);
        due("one below what 1 and all in front have", x.find(13), 1);
        due("one below what all have", x.find(20), 2);
        dueThrow("what all have", ELEMENT, () -> x.find(21));
    }

    private static void notOnWeight0() {
        RankRows x = new RankRows();
        x.behind(-1, 7, 0, 5);
        x.weigh(2, 1, 5);
        x.weigh(5, 1, 5);
        due("two of weight 0 in front", x.find(0), 2);
        due("two of weight 0 between", x.find(1), 5);
        dueThrow("one of weight 0 behind all", ELEMENT, () -> x.find(2));
    }

    private static void secondsBearNoRank() {
        RankRows x = new RankRows();
        x.behind(-1, 1, 1, 1000);
        x.behind(0, 1, 1000, 0);
        due("rank 0", x.find(0), 0);
        due("rank 1", x.find(1), 1);
        due("rank 1000", x.find(1000), 1);
        dueThrow("rank 1001", ELEMENT, () -> x.find(1001));
    }

    // Terms: what is thrown

    private static void orderOfBehind() {
        RankRows x = full();
        dueThrow("n, entry, room", ARGUMENT, () -> x.behind(4000, 0, 1, 1));
        dueThrow("n, entry below -1, room", ARGUMENT, () -> x.behind(-2, 201, 1, 1));
        dueThrow("n, room", ARGUMENT, () -> x.behind(0, 201, 1, 1));
        dueThrow("first, entry, room", ARGUMENT, () -> x.behind(4000, 1, 1001, 1));
        dueThrow("second, entry, room", ARGUMENT, () -> x.behind(-2, 1, 1, -1));
        dueThrow("first, room", ARGUMENT, () -> x.behind(-1, 1, -1, 1));
        dueThrow("second, room", ARGUMENT, () -> x.behind(-1, 1, 1, 1001));
        dueThrow("entry, room", ELEMENT, () -> x.behind(4000, 1, 1, 1));
        dueThrow("entry below -1, room", ELEMENT, () -> x.behind(-2, 200, 1, 1));
        dueThrow("room", STATE, () -> x.behind(0, 1, 1, 1));
    }

    private static void orderOfBefore() {
        RankRows x = full();
        dueThrow("first, entry, room", ARGUMENT, () -> x.before(4000, 1001, 1));
        dueThrow("second, entry, room", ARGUMENT, () -> x.before(-1, 1, -1));
        dueThrow("first, room", ARGUMENT, () -> x.before(0, -1, 1));
        dueThrow("second, room", ARGUMENT, () -> x.before(0, 1, 1001));
        dueThrow("entry, room", ELEMENT, () -> x.before(4000, 1, 1));
        dueThrow("entry below 0, room", ELEMENT, () -> x.before(-1, 1, 1));
        dueThrow("room", STATE, () -> x.before(0, 1, 1));
    }

    private static void orderOfWeigh() {
        RankRows x = three();
        dueThrow("first, entry", ARGUMENT, () -> x.weigh(3, 1001, 1));
        dueThrow("second, entry", ARGUMENT, () -> x.weigh(3, 1, 1001));
        dueThrow("first, entry below 0", ARGUMENT, () -> x.weigh(-1, -1, 1));
        dueThrow("second, entry below 0", ARGUMENT, () -> x.weigh(-1, 1, -1));
        dueThrow("entry", ELEMENT, () -> x.weigh(3, 1, 1));
    }

    private static void orderOfSum() {
        RankRows x = three();
        dueThrow("which, entry", ARGUMENT, () -> x.sum(3, 2));
        dueThrow("which, entry below -1", ARGUMENT, () -> x.sum(-2, -1));
        dueThrow("entry", ELEMENT, () -> x.sum(3, 1));
    }

    private static void entryBelowMinus1() {
        RankRows x = three();
        for (int entry : new int[] {-2, -3, -4000, MIN + 1, MIN}) {
            dueThrow("behind " + entry, ELEMENT, () -> x.behind(entry, 1, 1, 1));
            dueThrow("before " + entry, ELEMENT, () -> x.before(entry, 1, 1));
            dueThrow("weigh " + entry, ELEMENT, () -> x.weigh(entry, 1, 1));
            dueThrow("sum " + entry, ELEMENT, () -> x.sum(entry, 0));
            dueThrow("next " + entry, ELEMENT, () -> x.next(entry));
            dueThrow("place " + entry, ELEMENT, () -> x.place(entry));
        }
    }

    private static void entryBelow0() {
        RankRows x = three();
        dueThrow("before -1", ELEMENT, () -> x.before(-1, 1, 1));
        dueThrow("weigh -1", ELEMENT, () -> x.weigh(-1, 1, 1));
        dueThrow("place -1", ELEMENT, () -> x.place(-1));
    }

    private static void rankBelow0() {
        RankRows x = three();
        for (int rank : new int[] {-1, -2, MIN + 1, MIN}) {
            dueThrow("find " + rank, ELEMENT, () -> x.find(rank));
        }
        x.weigh(0, 0, 0);
        dueThrow("find -1, the first of weight 0", ELEMENT, () -> x.find(-1));
    }

    private static void badNumberChangesNothing() {
        RankRows x = three();
        dueThrow("n", ARGUMENT, () -> x.behind(0, 201, 1, 1));
        dueThrow("n", ARGUMENT, () -> x.behind(-1, 0, 1, 1));
        dueThrow("behind, first", ARGUMENT, () -> x.behind(0, 2, 1001, 1));
        dueThrow("behind, second", ARGUMENT, () -> x.behind(0, 2, 1, 1001));
        dueThrow("before, first", ARGUMENT, () -> x.before(0, -1, 1));
        dueThrow("before, second", ARGUMENT, () -> x.before(0, 1, -1));
        dueThrow("weigh, first", ARGUMENT, () -> x.weigh(0, 1001, 1));
        dueThrow("weigh, second: the first stays too", ARGUMENT, () -> x.weigh(0, 1, 1001));
        dueThrow("which", ARGUMENT, () -> x.sum(0, 2));
        dueUntouchedThree("a number out of its range", x);
    }

    private static void badEntryChangesNothing() {
        RankRows x = three();
        for (int entry : new int[] {3, -2, MAX}) {
            dueThrow("behind", ELEMENT, () -> x.behind(entry, 2, 1, 1));
            dueThrow("before", ELEMENT, () -> x.before(entry, 1, 1));
            dueThrow("weigh", ELEMENT, () -> x.weigh(entry, 1, 1));
            dueThrow("sum", ELEMENT, () -> x.sum(entry, 0));
            dueThrow("next", ELEMENT, () -> x.next(entry));
            dueThrow("place", ELEMENT, () -> x.place(entry));
        }
        dueThrow("next of the last", ELEMENT, () -> x.next(2));
        dueThrow("find", ELEMENT, () -> x.find(21));
        dueUntouchedThree("an entry that there is not", x);
        due("a new one has its own weights", x.behind(2, 1, 50, 60), 3);
        dueWeights("a new one", x, 3, 50, 60);
    }

    private static void tooManyChangesNothing() {
        RankRows x = withRoomFor(3);
        dueThrow("behind", STATE, () -> x.behind(199, 4, 1, 1));
        dueThrow("behind, before all", STATE, () -> x.behind(-1, 200, 1, 1));
        due("entries", x.entries(), 3997);
        due("the first", x.next(-1), 3800);
        due("sum of the first ones", x.sum(-1, 0), 3_997_000);
        due("sum of the second ones", x.sum(-1, 1), 3_997_000);
        dueThrow("none behind the last", ELEMENT, () -> x.next(199));
        due("there is still room", x.behind(199, 3, 1, 1), 3999);
        dueThrow("before", STATE, () -> x.before(3800, 1, 1));
        due("entries", x.entries(), 4000);
        due("the first", x.next(-1), 3800);
        due("sum", x.sum(-1, 0), 3_997_003);
    }

    private static void emptyRowStaysEmpty() {
        RankRows x = new RankRows();
        dueThrow("behind", ARGUMENT, () -> x.behind(-1, 1, 1, -1));
        dueThrow("behind", ELEMENT, () -> x.behind(0, 1, 1, 1));
        dueThrow("before", ELEMENT, () -> x.before(0, 1, 1));
        dueThrow("weigh", ELEMENT, () -> x.weigh(0, 1, 1));
        dueRow("empty", x);
        due("sum", x.sum(-1, 0), 0);
        due("the first one", x.behind(-1, 1, 2, 3), 0);
        dueWeights("the first one", x, 0, 2, 3);
    }

    // Promise 2: behind

    private static void behindAtTheEdgesOfN() {
        RankRows x = three();
        due("1", x.behind(0, 1, 1, 1), 3);
        due("1: entries", x.entries(), 4);
        due("2", x.behind(0, 2, 1, 1), 5);
        due("199", x.behind(0, 199, 1, 1), 204);
        due("200", x.behind(0, 200, 1, 1), 404);
        due("200: entries", x.entries(), 405);
        due("200: the last one's place", x.place(404), 200);
    }

    private static void behindTooFew() {
        RankRows x = three();
        for (int n : new int[] {0, -1, -200, MIN}) {
            dueThrow("n " + n, ARGUMENT, () -> x.behind(0, n, 1, 1));
            dueThrow("n " + n + ", before all", ARGUMENT, () -> x.behind(-1, n, 1, 1));
        }
    }

    private static void behindTooManyAtOnce() {
        RankRows x = three();
        for (int n : new int[] {201, 4000, 4001, MAX - 3, MAX}) {
            dueThrow("n " + n, ARGUMENT, () -> x.behind(0, n, 1, 1));
            dueThrow("n " + n + ", before all", ARGUMENT, () -> x.behind(-1, n, 1, 1));
        }
    }

    private static void behindOneBehindTheOther() {
        RankRows x = three();
        x.behind(0, 4, 1, 2);
        dueRow("in the order of their numbers", x, 0, 3, 4, 5, 6, 1, 2);
        for (int entry = 3; entry < 7; entry++) {
            dueWeights("each of them", x, entry, 1, 2);
        }
        dueWeights("the one in front", x, 0, 7, 8);
        dueWeights("the one behind", x, 1, 7, 8);
    }

    private static void behindTheLast() {
        RankRows x = three();
        x.behind(2, 2, 1, 2);
        dueRow("behind the last", x, 0, 1, 2, 3, 4);
        x.behind(3, 1, 1, 2);
        dueRow("behind the last but one", x, 0, 1, 2, 3, 5, 4);
        x.behind(0, 1, 1, 2);
        dueRow("behind the first", x, 0, 6, 1, 2, 3, 5, 4);
    }

    private static void behindBeforeAllOfNone() {
        RankRows x = new RankRows();
        due("answer", x.behind(-1, 2, 3, 4), 1);
        dueRow("a row of none", x, 0, 1);
    }

    private static void behindBeforeAllOfSome() {
        RankRows x = three();
        due("answer", x.behind(-1, 2, 3, 4), 4);
        dueRow("a row of three", x, 3, 4, 0, 1, 2);
        due("answer", x.behind(-1, 1, 3, 4), 5);
        dueRow("a row of five", x, 5, 3, 4, 0, 1, 2);
    }

    private static void behindAnswersTheLast() {
        RankRows x = new RankRows();
        due("one", x.behind(-1, 1, 1, 1), 0);
        due("two", x.behind(-1, 2, 1, 1), 2);
        due("it stands behind the other", x.place(2), 1);
        due("two hundred", x.behind(0, 200, 1, 1), 202);
        due("it stands behind the others", x.place(202), 202);
    }

    private static void behindNoSuchEntry() {
        RankRows x = three();
        for (int entry : new int[] {3, 4, 3999, 4000, MAX}) {
            dueThrow("entry " + entry, ELEMENT, () -> x.behind(entry, 1, 1, 1));
            dueThrow("entry " + entry + ", many", ELEMENT, () -> x.behind(entry, 200, 1, 1));
        }
        due("the greatest there is", x.behind(2, 1, 1, 1), 3);
        due("and the one just made", x.behind(3, 1, 1, 1), 4);
    }

    private static void behindWouldBeTooMany() {
        RankRows x = withRoomFor(199);
        dueThrow("one too many", STATE, () -> x.behind(0, 200, 1, 1));
        dueThrow("one too many, before all", STATE, () -> x.behind(-1, 200, 1, 1));
        due("not even some of them", x.entries(), 3801);
        RankRows y = withRoomFor(1);
        dueThrow("two for one", STATE, () -> y.behind(0, 2, 1, 1));
        RankRows z = full();
        dueThrow("one for none", STATE, () -> z.behind(0, 1, 1, 1));
    }

    private static void behindFillsJustUp() {
        RankRows x = withRoomFor(199);
        due("199 for 199", x.behind(199, 199, 1, 1), 3999);
        due("its place", x.place(3999), 3999);
        due("20 times 200", full().entries(), 4000);
    }

    // Promise 3: before

    private static void beforeTheFirst() {
        RankRows x = three();
        due("before the first", x.before(0, 1, 2), 3);
        dueRow("before the first", x, 3, 0, 1, 2);
        due("before the first again", x.before(3, 1, 2), 4);
        dueRow("before the first again", x, 4, 3, 0, 1, 2);
        due("before the last", x.before(2, 3, 4), 5);
        dueRow("before the last", x, 4, 3, 0, 1, 5, 2);
        dueWeights("the new one", x, 5, 3, 4);
        dueWeights("the one that it stands before", x, 2, 7, 8);
        RankRows y = new RankRows();
        y.behind(-1, 1, 1, 1);
        due("before the only one", y.before(0, 1, 1), 1);
        dueRow("before the only one", y, 1, 0);
    }

    private static void beforeNoSuchEntry() {
        RankRows x = three();
        for (int entry : new int[] {3, 4, 3999, 4000, MAX, -1}) {
            dueThrow("entry " + entry, ELEMENT, () -> x.before(entry, 1, 1));
        }
        due("the greatest there is", x.before(2, 1, 1), 3);
        due("and the one just made", x.before(3, 1, 1), 4);
    }

    private static void beforeWouldBeTooMany() {
        RankRows x = withRoomFor(2);
        due("one of two", x.before(0, 1, 1), 3998);
        due("two of two", x.before(3998, 1, 1), 3999);
        dueThrow("one too many", STATE, () -> x.before(0, 1, 1));
        dueThrow("one too many, before the new one", STATE, () -> x.before(3999, 1, 1));
        due("entries", x.entries(), 4000);
    }

    // Promise 4: weigh

    private static void weighFromThenOn() {
        RankRows x = three();
        x.weigh(0, 0, 1000);
        x.weigh(2, 1000, 0);
        dueWeights("the first of the row", x, 0, 0, 1000);
        dueWeights("none but these", x, 1, 7, 8);
        dueWeights("the last of the row", x, 2, 1000, 0);
        due("no rank falls on 0 any more", x.find(0), 1);
        due("and more of them on 2", x.find(1006), 2);
        dueRow("the row stays", x, 0, 1, 2);
        x.behind(-1, 1, 5, 5);
        dueWeights("when it has moved", x, 0, 0, 1000);
    }

    private static void weighAnswersTheFirstBefore() {
        RankRows x = three();
        due("as made", x.weigh(1, 0, 1000), 7);
        due("the least", x.weigh(1, 1000, 0), 0);
        due("the most", x.weigh(1, 1000, 0), 1000);
        due("the same again", x.weigh(1, 1000, 3), 1000);
        dueThrow("refused", ARGUMENT, () -> x.weigh(1, 1001, 0));
        due("not that of a refused call", x.weigh(1, 4, 4), 1000);
    }

    private static void weighNoSuchEntry() {
        RankRows x = three();
        for (int entry : new int[] {3, 4, 3999, 4000, MAX, -1}) {
            dueThrow("entry " + entry, ELEMENT, () -> x.weigh(entry, 1, 1));
        }
        due("the least there is", x.weigh(0, 1, 1), 7);
        due("the greatest there is", x.weigh(2, 1, 1), 7);
    }

    // Promise 5: find

    private static void findRank0() {
        RankRows x = three();
        due("rank 0", x.find(0), 0);
        x.before(0, 1, 0);
        due("rank 0, of the first in the row", x.find(0), 3);
        x.weigh(3, 0, 0);
        due("rank 0, of the first with a weight", x.find(0), 0);
        dueThrow("one below", ELEMENT, () -> x.find(-1));
    }

    private static void findBehindAll() {
        RankRows x = three();
        due("the last rank", x.find(20), 2);
        for (int rank : new int[] {21, 22, 4_000_000, MAX - 7, MAX}) {
            dueThrow("rank " + rank, ELEMENT, () -> x.find(rank));
        }
        RankRows y = full();
        due("the last rank there can be", y.find(3_999_999), 199);
        dueThrow("one above it", ELEMENT, () -> y.find(4_000_000));
        dueThrow("the greatest number", ELEMENT, () -> y.find(MAX));
    }

    private static void findInEmptyRow() {
        RankRows x = new RankRows();
        for (int rank : new int[] {0, 1, -1, MAX, MIN}) {
            dueThrow("rank " + rank, ELEMENT, () -> x.find(rank));
        }
    }

    private static void findWithoutWeight() {
        RankRows x = new RankRows();
        x.behind(-1, 200, 0, 1000);
        dueThrow("rank 0", ELEMENT, () -> x.find(0));
        RankRows y = three();
        for (int entry = 0; entry < 3; entry++) {
            y.weigh(entry, 0, 9);
        }
        dueThrow("rank 0, weights taken away", ELEMENT, () -> y.find(0));
    }

    // Promise 6: sum

    private static void sumWhich() {
        RankRows x = three();
        due("which 0", x.sum(2, 0), 14);
        due("which 1", x.sum(2, 1), 16);
        for (int which : new int[] {-1, 2, 3, MIN, MAX}) {
            dueThrow("which " + which, ARGUMENT, () -> x.sum(2, which));
            dueThrow("which " + which + ", of all", ARGUMENT, () -> x.sum(-1, which));
            dueThrow("which " + which + ", of none", ARGUMENT, () -> new RankRows().sum(-1, which));
        }
    }

    private static void sumAtBothEnds() {
        RankRows x = three();
        x.before(0, 100, 200);
        due("in front of the first", x.sum(3, 0), 0);
        due("in front of the first", x.sum(3, 1), 0);
        due("in front of the second", x.sum(0, 0), 100);
        due("in front of the second", x.sum(0, 1), 200);
        due("in front of the last, without its own", x.sum(2, 0), 114);
        due("in front of the last, without its own", x.sum(2, 1), 216);
    }

    private static void sumOfAll() {
        RankRows x = three();
        due("first ones", x.sum(-1, 0), 21);
        due("second ones", x.sum(-1, 1), 24);
        x.behind(2, 1, 1000, 0);
        due("first ones, the last with them", x.sum(-1, 0), 1021);
        due("second ones, the last with them", x.sum(-1, 1), 24);
    }

    private static void sumOfNone() {
        RankRows x = new RankRows();
        due("first ones", x.sum(-1, 0), 0);
        due("second ones", x.sum(-1, 1), 0);
    }

    private static void sumOfFull() {
        RankRows x = full();
        due("first ones", x.sum(-1, 0), 4_000_000);
        due("second ones", x.sum(-1, 1), 4_000_000);
        due("in front of the last", x.sum(199, 0), 3_999_000);
        due("in front of the last", x.sum(199, 1), 3_999_000);
    }

    private static void sumNoSuchEntry() {
        RankRows x = three();
        for (int entry : new int[] {3, 4, 3999, 4000, MAX, -2}) {
            dueThrow("entry " + entry + ", first ones", ELEMENT, () -> x.sum(entry, 0));
            dueThrow("entry " + entry + ", second ones", ELEMENT, () -> x.sum(entry, 1));
        }
        dueThrow("none at all", ELEMENT, () -> new RankRows().sum(0, 0));
    }

    // Promise 7: next

    private static void nextIsTheFirst() {
        RankRows x = new RankRows();
        x.behind(-1, 1, 1, 1);
        due("of one", x.next(-1), 0);
        x.before(0, 1, 1);
        due("of two", x.next(-1), 1);
        x.behind(0, 1, 1, 1);
        due("of three, one put behind", x.next(-1), 1);
        x.behind(-1, 200, 0, 0);
        due("of many", x.next(-1), 3);
        due("of a full row", full().next(-1), 3800);
    }

    private static void nextNoSuchEntry() {
        RankRows x = three();
        for (int entry : new int[] {3, 4, 3999, 4000, MAX, -2}) {
            dueThrow("entry " + entry, ELEMENT, () -> x.next(entry));
        }
    }

    private static void nextNoneBehind() {
        RankRows x = three();
        due("the last but one", x.next(1), 2);
        dueThrow("the last", ELEMENT, () -> x.next(2));
        x.behind(2, 1, 1, 1);
        due("the last no more", x.next(2), 3);
        x.before(3, 1, 1);
        due("one between", x.next(2), 4);
        dueThrow("the last, not the last made", ELEMENT, () -> x.next(3));
        RankRows y = full();
        due("the last but one of a full row", y.next(198), 199);
        dueThrow("the last of a full row", ELEMENT, () -> y.next(199));
    }

    private static void nextInEmptyRow() {
        RankRows x = new RankRows();
        dueThrow("-1", ELEMENT, () -> x.next(-1));
        dueThrow("0", ELEMENT, () -> x.next(0));
    }

    // Promise 8: place

    private static void placeAtBothEnds() {
        RankRows x = new RankRows();
        x.behind(-1, 1, 0, 0);
        due("the only one", x.place(0), 0);
        x.before(0, 0, 0);
        due("the first", x.place(1), 0);
        due("the last", x.place(0), 1);
        RankRows y = full();
        due("the first of a full row", y.place(3800), 0);
        due("the last of a full row", y.place(199), 3999);
    }

    private static void placeNoSuchEntry() {
        RankRows x = three();
        for (int entry : new int[] {3, 4, 3999, 4000, MAX, -1, -2}) {
            dueThrow("entry " + entry, ELEMENT, () -> x.place(entry));
        }
        dueThrow("none at all", ELEMENT, () -> new RankRows().place(0));
    }

    // Promise 9: entries

    private static void entriesFromNoneToFull() {
        RankRows x = new RankRows();
        due("none", x.entries(), 0);
        x.behind(-1, 1, 0, 0);
        due("one", x.entries(), 1);
        x.before(0, 0, 0);
        due("two", x.entries(), 2);
        due("one below full", withRoomFor(1).entries(), 3999);
        RankRows y = full();
        due("full", y.entries(), 4000);
        dueThrow("refused", STATE, () -> y.before(0, 1, 1));
        due("full, one refused", y.entries(), 4000);
    }

    /** An exception that no test looks for fails the one test, and the others still run. */
    private static void test(String sentence, Runnable body) {
        int wrongBefore = wrongSoFar();
        try {
            body.run();
        } catch (RuntimeException e) {
            tell("threw " + e);
        }
        if (wrongSoFar() != wrongBefore) {
            System.out.println("NOT HELD: " + sentence);
        }
    }
}
