import java.util.ArrayDeque;
import java.util.Deque;

/** The description of changes, and promises 5 to 8: what is recorded, how long it is kept, and what comes back. */
public final class HistoryBoundsTest {
    private static final int NONE = PackedLists.NONE, BAD = PackedLists.BAD, STATE = PackedLists.STATE,
            FULL = PackedLists.FULL;
    private static final Sentences DUE = new Sentences("HistoryBoundsTest");

    public static void main(String[] args) {
        whatChangesAre();
        whatNoChangesAre();
        atMost8States();
        aHistoryThatWrapsAround();
        statesHaveAllLists();
        whatBelongsToNoState();
        loadReplacesAList();
        loadOfFaults();
        storeReplacesAList();
        storeAnswers();
        clearMakesEmpty();
        undoRestores();
        undoAnswers();
        DUE.finish();
    }

    private static PackedLists withStates(int changes) {
        PackedLists x = new PackedLists();
        for (int change = 0; change < changes; change++) {
            x.add(0, change);
        }
        return x;
    }

    // ---- Changes

    private static void whatChangesAre() {
        DUE.of("Changes are the calls of add(), remove(), pack(), load(), store() and clear() that return no error.");
        PackedLists x = new PackedLists();
        x.add(0, 5);
        DUE.is("add()", x.count(8), 1);
        x.pack(0, 0);
        DUE.is("pack(), though the list is as before", x.count(8), 2);
        Texts.load(x, 0, "5");
        DUE.is("load(), though the list is as before", x.count(8), 3);
        Texts.query(x, "A");
        x.store(0);
        DUE.is("store(), though the list is as before", x.count(8), 4);
        x.remove(0, 5);
        DUE.is("remove()", x.count(8), 5);
        x.clear(0);
        DUE.is("clear(), though the list is empty", x.count(8), 6);
        x.pack(0, 64);
        DUE.is("pack() of an empty list", x.count(8), 7);
        Texts.load(x, 0, "");
        DUE.is("load() of an empty text", x.count(8), 8);
        for (int left = 7; left >= 0; left--) {
            DUE.is("undo() of each of them", x.undo(), left);
        }
    }

    private static void whatNoChangesAre() {
        PackedLists x = withStates(3);
        Texts.query(x, "A");
        Texts.type(x, "7,7");
        int[] errors = {x.add(0, 1), x.add(6, 1), x.remove(0, 9), x.remove(0, -1), x.pack(0, 65), x.load(0), x.load(6),
            x.store(6), x.clear(6)};
        for (int index = 0; index < errors.length; index++) {
            DUE.holds("error " + index, errors[index] < NONE);
        }
        DUE.is("errors are no changes", x.count(8), 3);
        x.at(0, 0);
        x.find(0, 1, 0);
        x.digest();
        x.costBy(0, 0);
        x.common(0, 0, 0);
        x.erase();
        x.type('A');
        x.query();
        DUE.is("other calls are no changes", x.count(8), 3);
        DUE.is("undo() is none: it takes one away", x.undo(), 2);
        DUE.is("and records none", x.count(8), 2);
    }

    private static void atMost8States() {
        DUE.of("A history of at most 8 states is kept, each of which consists of all lists with their blocks: each "
                + "change records the state before it, and when there are 8 already, the oldest one is dropped.");
        for (int changes = 0; changes <= 18; changes++) {
            PackedLists x = withStates(changes);
            int states = Math.min(changes, 8);
            DUE.is("states behind " + changes + " changes", x.count(8), states);
            for (int left = states - 1; left >= 0; left--) {
                DUE.is("undo() behind " + changes + " changes", x.undo(), left);
                DUE.is("numbers then", x.list(0, 0), changes - states + left);
            }
            DUE.is("one undo() more behind " + changes + " changes", x.undo(), STATE);
            DUE.is("numbers at last", x.list(0, 0), changes - states);
        }
    }

    private static void aHistoryThatWrapsAround() {
        PackedLists x = new PackedLists();
        Deque<Integer> expected = new ArrayDeque<>();
        int marker = 0;
        int[] steps = {5, -3, 7, -2, 9, -8, -1, 3, -3, 12, -4, 4, -8, -1, 1, -1};
        for (int step : steps) {
            for (int times = 0; times < step; times++) {
                expected.addLast(marker);
                if (expected.size() > 8) {
                    expected.removeFirst();
                }
                marker = (marker * 7 + 11) % 1000;
                Texts.load(x, 0, String.valueOf(marker));
            }
            for (int times = 0; times > step; times--) {
                boolean some = !expected.isEmpty();
                marker = some ? expected.removeLast() : marker;
                DUE.is("undo() in a long history", x.undo(), some ? expected.size() : STATE);
                DUE.is("the number then", x.list(0, 4), marker == 0 ? NONE : marker);
            }
            DUE.is("states in a long history", x.count(8), expected.size());
        }
    }

    private static void statesHaveAllLists() {
        PackedLists x = new PackedLists();
        for (int list = 0; list < 6; list++) {
            Texts.load(x, list, list + "-" + (list + 9));
        }
        x.pack(0, 4);
        x.pack(5, 3);
        long before = x.digest();
        int states = x.count(8);
        x.add(0, 500);
        x.remove(5, 7);
        x.clear(3);
        x.pack(0, 2);
        x.undo();
        x.undo();
        x.undo();
        DUE.lengths("the last change is left: list 0", x, 0, 4, 4, 3);
        x.undo();
        DUE.lengths("list 0 as it was cut", x, 0, 4, 4, 2);
        DUE.lengths("list 5 as it was cut", x, 5, 3, 3, 3, 1);
        DUE.is("list 3 has its numbers", x.list(3, 0), 10);
        DUE.is("list 2 was never changed", x.list(2, 0), 10);
        DUE.is("four of the states were dropped", x.count(8), states - 4);
        DUE.holds("the number of states is in the digest", x.digest() != before);
    }

    private static void whatBelongsToNoState() {
        DUE.of("The cache, the hits and the misses, the result and the text belong to no state.");
        PackedLists x = new PackedLists();
        Texts.load(x, 0, "1-9");
        x.pack(0, 3);
        x.at(0, 0);
        x.at(0, 1);
        x.at(0, 8);
        Texts.query(x, "A");
        Texts.type(x, "77");
        x.add(0, 50);
        x.undo();
        DUE.is("hits", x.count(4), 1);
        DUE.is("misses", x.count(5), 2);
        DUE.is("the cache is not filled again", x.count(3), 0);
        DUE.is("numbers of the result", x.count(6), 9);
        DUE.is("bytes of the text", x.count(9), 2);
        DUE.is("load()", x.load(1), 1);
        x.undo();
        DUE.is("the text of load() does not come back", x.count(9), 0);
        x.undo();
        x.undo();
        DUE.is("the result outlives all states", x.result(8), 9);
        DUE.is("states", x.count(8), 0);
        DUE.is("hits and misses at last", 10 * x.count(4) + x.count(5), 12);
    }

    // ---- promise 5

    private static void loadReplacesAList() {
        DUE.of("Replaces a list by the numbers of the text, packs it as well as possible, and empties the text.");
        PackedLists x = new PackedLists();
        Texts.load(x, 0, "1-50");
        x.pack(0, 1);
        DUE.is("load()", Texts.load(x, 0, "100,101"), 2);
        DUE.numbers("no old number is left", x, 0, 100, 101);
        DUE.lengths("packed anew", x, 0, 2);
        DUE.is("no text is left", x.count(9), 0);
        DUE.is("an empty text", x.load(0), 0);
        DUE.is("an empty list", x.list(0, 0), 0);
        DUE.is("blanks alone", Texts.load(x, 0, "   "), 0);
        DUE.is("no blank is left", x.count(9), 0);
        DUE.is("200 numbers", Texts.load(x, 0, "999800-999999"), 200);
        DUE.lengths("200 numbers, packed as well as possible", x, 0, 8, 64, 64, 64);
        DUE.is("a text of 100 bytes", Texts.load(x, 1, "7" + " ".repeat(99)), 1);
        DUE.is("the other list is as before", x.list(0, 0), 200);
    }

    private static void loadOfFaults() {
        DUE.of("Returns the number of numbers; BAD; -2000 - p if the text has the fault p as numbers (the text "
                + "stays).");
        PackedLists x = new PackedLists();
        Texts.load(x, 0, "4");
        DUE.is("fault 0", Texts.load(x, 0, "-"), -2000);
        DUE.is("fault 99", Texts.load(x, 0, "9" + " ".repeat(98) + "9"), -2099);
        DUE.is("fault 100", Texts.load(x, 0, "9," + " ".repeat(98)), -2100);
        DUE.is("the text stays", x.count(9), 100);
        DUE.is("the fault stays", x.load(0), -2100);
        DUE.is("as a bad list", x.load(6), BAD);
        DUE.is("as a bad list", x.load(-1), BAD);
        DUE.is("the list stays", x.list(0, 4), 4);
        DUE.is("no state was recorded", x.count(8), 1);
        DUE.is("a bad list with a good text", Texts.load(x, 6, "9"), BAD);
        DUE.is("its text stays", x.count(9), 1);
        DUE.is("and is good for another list", x.load(5), 1);
    }

    // ---- promise 6

    private static void storeReplacesAList() {
        DUE.of("Replaces a list by the result of the latest query(), packs it as well as possible.");
        PackedLists x = new PackedLists();
        Texts.load(x, 0, "0-199");
        x.pack(0, 1);
        Texts.query(x, "A");
        DUE.is("into the list that it came from", x.store(0), 200);
        DUE.lengths("packed anew", x, 0, 8, 64, 64, 64);
        Texts.query(x, "B");
        Texts.query(x, "B&");
        DUE.is("the latest query() without a fault", x.store(0), 0);
        DUE.is("an empty result", x.list(0, 1), 0);
        DUE.of("The result stays.");
        DUE.is("how many numbers", x.count(6), 0);
        Texts.load(x, 1, "8,9");
        Texts.query(x, "B");
        DUE.is("store(2)", x.store(2), 2);
        DUE.is("store(3)", x.store(3), 2);
        x.clear(1);
        x.clear(2);
        DUE.result("though its lists are empty", x, 8, 9);
        x.undo();
        DUE.result("behind undo()", x, 8, 9);
        DUE.is("store(4)", x.store(4), 2);
    }

    private static void storeAnswers() {
        DUE.of("Returns the number of numbers; BAD; STATE if there is no result; FULL if it has more than 200 "
                + "numbers.");
        PackedLists x = new PackedLists();
        Texts.load(x, 0, "0-199");
        Texts.load(x, 1, "199,200");
        DUE.is("no result", x.store(2), STATE);
        Texts.query(x, "A&&B");
        DUE.is("no result behind a fault", x.store(2), STATE);
        Texts.query(x, "A");
        DUE.is("200 numbers", x.store(2), 200);
        Texts.query(x, "A|B");
        DUE.is("201 numbers", x.store(2), FULL);
        DUE.is("bad lists", x.store(-1) + x.store(6), BAD + BAD);
        DUE.is("list 2 is as before", x.list(2, 5), 199);
        Texts.query(x, "A-A");
        DUE.is("no numbers", x.store(2), 0);
        DUE.is("bad lists of no numbers", x.store(-1) + x.store(6), BAD + BAD);
    }

    // ---- promise 7

    private static void clearMakesEmpty() {
        DUE.of("Returns how many numbers it had; BAD.");
        PackedLists x = new PackedLists();
        Texts.load(x, 0, "0-199");
        Texts.load(x, 5, "3");
        DUE.is("200", x.clear(0), 200);
        DUE.is("0", x.clear(0), 0);
        DUE.is("1", x.clear(5), 1);
        DUE.is("bad lists", x.clear(-1) + x.clear(6), BAD + BAD);
        DUE.is("the list takes numbers again", x.add(0, 999999), 0);
        DUE.lengths("in a new block", x, 0, 1);
    }

    // ---- promise 8

    private static void undoRestores() {
        DUE.of("Restores the latest state of the history, and removes it from the history.");
        PackedLists x = new PackedLists();
        Texts.load(x, 0, "0-63");
        x.add(0, 64);
        DUE.lengths("cut by add()", x, 0, 32, 33);
        x.undo();
        DUE.lengths("before it was cut", x, 0, 64);
        x.pack(0, 1);
        x.remove(0, 0);
        x.undo();
        DUE.is("64 blocks", x.list(0, 1), 64);
        DUE.is("with its first number", x.block(0, 0, 2), 0);
        x.undo();
        DUE.lengths("one block", x, 0, 64);
        Texts.load(x, 1, "0-199");
        x.pack(1, 1);
        x.clear(1);
        x.undo();
        DUE.is("200 blocks", x.list(1, 1), 200);
        DUE.is("the last of 200 blocks", x.block(1, 199, 2), 199);
        x.add(0, 100);
        x.undo();
        x.add(0, 200);
        x.undo();
        DUE.is("what was undone does not come back", x.list(0, 5), 63);
    }

    private static void undoAnswers() {
        DUE.of("Returns how many states are left in the history; STATE if there is none.");
        PackedLists x = new PackedLists();
        DUE.is("at first", x.undo(), STATE);
        x.add(0, 1);
        DUE.is("of one", x.undo(), 0);
        DUE.is("of none", x.undo(), STATE);
        DUE.is("of none again", x.undo(), STATE);
        PackedLists eight = withStates(8);
        DUE.is("of 8", eight.undo(), 7);
        PackedLists nine = withStates(9);
        DUE.is("of 9, of which one is dropped", nine.undo(), 7);
        nine.add(1, 5);
        DUE.is("of 8 again", nine.undo(), 7);
    }
}
