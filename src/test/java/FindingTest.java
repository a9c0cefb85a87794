/** Promises 18 to 20: finding numbers by way of the cache. */
public final class FindingTest {
    private static final int NONE = PackedLists.NONE, BAD = PackedLists.BAD;
    private static final Due DUE = new Due("FindingTest");

    public static void main(String[] args) {
        promise18At();
        promise19Find();
        promise19FindLooksAtOneBlock();
        promise20Cached();
        theOldestLookLeaves();
        nothingElseLooks();
        DUE.finish();
    }

    /** Blocks 10 12, 20 22, 30 32, 40 42, 50 52, 60. */
    private static PackedLists inPairs(int list) {
        PackedLists x = new PackedLists();
        Texts.load(x, list, "10,12,20,22,30,32,40,42,50,52,60");
        x.pack(list, 2);
        return x;
    }

    private static void looks(PackedLists x, String when, int hits, int misses) {
        DUE.is(when + ": hits", x.count(4), hits);
        DUE.is(when + ": misses", x.count(5), misses);
    }

    private static void promise18At() {
        PackedLists x = inPairs(1);
        int[] numbers = {10, 12, 20, 22, 30, 32, 40, 42, 50, 52, 60};
        for (int index = 0; index < numbers.length; index++) {
            DUE.is("at(1, " + index + ")", x.at(1, index), numbers[index]);
            DUE.is("cached(1, " + index / 2 + ")", x.cached(1, index / 2), 1);
        }
        looks(x, "each block twice", 5, 6);
        DUE.is("at(1, 11)", x.at(1, 11), BAD);
        DUE.is("at(1, -1)", x.at(1, -1), BAD);
        DUE.is("at(-1, 0)", x.at(-1, 0), BAD);
        DUE.is("at(6, 0)", x.at(6, 0), BAD);
        DUE.is("at(0, 0) of an empty list", x.at(0, 0), BAD);
        looks(x, "errors look at nothing", 5, 6);
    }

    private static void promise19Find() {
        PackedLists x = inPairs(3);
        DUE.is("find(3, 10, 0)", x.find(3, 10, 0), 0);
        DUE.is("find(3, 11, 0)", x.find(3, 11, 0), 1);
        DUE.is("find(3, 11, 1)", x.find(3, 11, 1), 12);
        DUE.is("find(3, 13, 0): in the next block", x.find(3, 13, 0), 2);
        DUE.is("find(3, 13, 1)", x.find(3, 13, 1), 20);
        DUE.is("find(3, 0, 0): before all blocks", x.find(3, 0, 0), 0);
        DUE.is("find(3, 0, 1)", x.find(3, 0, 1), 10);
        DUE.is("find(3, 60, 0)", x.find(3, 60, 0), 10);
        DUE.is("find(3, 61, 0)", x.find(3, 61, 0), NONE);
        DUE.is("find(3, 999999, 1)", x.find(3, 999999, 1), NONE);
        DUE.is("find in an empty list", x.find(0, 5, 0), NONE);
        DUE.is("find(3, 1000000, 0)", x.find(3, 1000000, 0), BAD);
        DUE.is("find(3, -1, 0)", x.find(3, -1, 0), BAD);
        DUE.is("find(3, 10, 2)", x.find(3, 10, 2), BAD);
        DUE.is("find(3, 10, -1)", x.find(3, 10, -1), BAD);
        DUE.is("find(-1, 10, 0)", x.find(-1, 10, 0), BAD);
        DUE.is("find(6, 10, 0)", x.find(6, 10, 0), BAD);
        DUE.is("find in an empty list, what 2", x.find(0, 5, 2), BAD);
    }

    private static void promise19FindLooksAtOneBlock() {
        PackedLists x = inPairs(2);
        x.find(2, 9, 0);
        looks(x, "no base is at most 9", 0, 0);
        x.find(0, 9, 0);
        looks(x, "no block in an empty list", 0, 0);
        x.find(2, 19, 1);
        looks(x, "the block before the number found", 0, 1);
        DUE.is("block 0 was looked at", x.cached(2, 0), 1);
        DUE.is("block 1 was not", x.cached(2, 1), 0);
        x.find(2, 20, 1);
        looks(x, "the block whose base is the value", 0, 2);
        DUE.is("block 1 was looked at", x.cached(2, 1), 1);
        x.find(2, 999999, 0);
        looks(x, "the last block, though nothing is found", 0, 3);
        DUE.is("block 5 was looked at", x.cached(2, 5), 1);
        x.find(2, 61, 0);
        looks(x, "a hit, though nothing is found", 1, 3);
    }

    private static void promise20Cached() {
        PackedLists x = inPairs(0);
        DUE.is("cached(0, 0)", x.cached(0, 0), 0);
        x.at(0, 0);
        DUE.is("cached(0, 0) after a look", x.cached(0, 0), 1);
        DUE.is("cached(0, 5)", x.cached(0, 5), 0);
        DUE.is("cached(0, 6)", x.cached(0, 6), BAD);
        DUE.is("cached(0, -1)", x.cached(0, -1), BAD);
        DUE.is("cached(1, 0) of an empty list", x.cached(1, 0), BAD);
        DUE.is("cached(-1, 0)", x.cached(-1, 0), BAD);
        DUE.is("cached(6, 0)", x.cached(6, 0), BAD);
        looks(x, "cached() looks at nothing", 0, 1);
        x.add(1, 5);
        DUE.is("the same block of another list", x.cached(1, 0), 0);
    }

    private static void theOldestLookLeaves() {
        PackedLists x = inPairs(0);
        for (int block = 0; block < 4; block++) {
            x.at(0, 2 * block);
        }
        DUE.is("four blocks", x.count(3), 4);
        x.at(0, 1);
        x.find(0, 25, 0);
        looks(x, "looks at 0 and 1 again", 2, 4);
        x.at(0, 8);
        DUE.is("four blocks still", x.count(3), 4);
        DUE.is("block 2 left", x.cached(0, 2), 0);
        x.at(0, 10);
        DUE.is("block 3 left", x.cached(0, 3), 0);
        for (int block : new int[] {0, 1, 4, 5}) {
            DUE.is("block " + block + " is there", x.cached(0, block), 1);
        }
        Texts.load(x, 1, "1");
        DUE.is("another list's change leaves them", x.count(3), 4);
        x.at(1, 0);
        DUE.is("block 0 left for another list's", x.cached(0, 0), 0);
        x.remove(0, 60);
        DUE.is("the other list's block is left", x.count(3), 1);
        x.at(0, 0);
        x.at(0, 2);
        x.at(0, 4);
        x.at(0, 6);
        DUE.is("the order outlives a change", x.cached(1, 0), 0);
    }

    private static void nothingElseLooks() {
        PackedLists x = inPairs(0);
        Texts.type(x, "A&A");
        x.query();
        x.result(0);
        x.common(0, 0, 0);
        x.list(0, 2);
        x.block(0, 0, 3);
        x.word(0, 0, 0);
        x.exception(0, 0, 0, 0);
        x.gaps(0, 1);
        x.costBy(0, 0);
        x.part(0, 0, 5, 0);
        x.digest();
        x.store(1);
        DUE.is("nothing in the cache", x.count(3), 0);
        looks(x, "no looks", 0, 0);
    }
}
