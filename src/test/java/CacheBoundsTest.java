/** The description of the cache, and promises 18 to 20: hits, misses, and who leaves. */
public final class CacheBoundsTest {
    private static final int NONE = PackedLists.NONE, BAD = PackedLists.BAD;
    private static final Sentences DUE = new Sentences("CacheBoundsTest");

    public static void main(String[] args) {
        upTo4Blocks();
        hitsAndMisses();
        theLongestAgoLeaves();
        changesTakeOutAll();
        undoTakesOutAll();
        nothingElseLooks();
        atLooksAtItsBlock();
        atAnswers();
        findLooksAtOneBlock();
        findAnswers();
        cachedTells();
        DUE.finish();
    }

    /** Each list has the numbers 10, 20, .. 80, and as many blocks. */
    private static PackedLists inOnes() {
        PackedLists x = new PackedLists();
        for (int list = 0; list < 6; list++) {
            Texts.load(x, list, "10,20,30,40,50,60,70,80");
            x.pack(list, 1);
        }
        return x;
    }

    private static void looks(String when, PackedLists x, int hits, int misses) {
        DUE.is(when + ": hits", x.count(4), hits);
        DUE.is(when + ": misses", x.count(5), misses);
    }

    /** Of list 0, these blocks are in the cache; of the others none. */
    private static void inCache(String when, PackedLists x, int... blocks) {
        DUE.is(when + ": blocks in the cache", x.count(3), blocks.length);
        for (int block : blocks) {
            DUE.is(when + ": block " + block, x.cached(0, block), 1);
        }
    }

    // ---- Cache

    private static void upTo4Blocks() {
        DUE.of("Up to 4 decoded blocks are kept in a cache, empty at first.");
        PackedLists x = inOnes();
        inCache("at first", x);
        int[] sizes = {1, 2, 3, 4, 4, 4, 4, 4};
        for (int index = 0; index < sizes.length; index++) {
            x.at(0, index);
            DUE.is("behind " + (index + 1) + " looks", x.count(3), sizes[index]);
        }
        inCache("the latest four", x, 4, 5, 6, 7);
        PackedLists y = inOnes();
        for (int list = 0; list < 6; list++) {
            y.at(list, 0);
            DUE.is("behind looks in " + (list + 1) + " lists", y.count(3), Math.min(list + 1, 4));
        }
        for (int list = 0; list < 6; list++) {
            DUE.is("block 0 of list " + list, y.cached(list, 0), list < 2 ? 0 : 1);
        }
    }

    private static void hitsAndMisses() {
        DUE.of("To look at a block is a hit if it is in the cache, otherwise a miss; a block that was missed comes "
                + "into the cache, and if there are 4 already, the one whose latest look is longest ago leaves it.");
        PackedLists x = inOnes();
        looks("at first", x, 0, 0);
        x.at(0, 0);
        looks("a first look", x, 0, 1);
        x.at(0, 0);
        looks("a second look", x, 1, 1);
        x.at(1, 0);
        looks("the same number of another list", x, 1, 2);
        x.at(0, 0);
        looks("the first one is still there", x, 2, 2);
        x.at(0, 1);
        x.at(0, 2);
        looks("four blocks", x, 2, 4);
        x.at(0, 3);
        looks("a fifth", x, 2, 5);
        x.at(1, 0);
        looks("the one that has left", x, 2, 6);
        x.at(0, 0);
        looks("and so the next", x, 2, 7);
    }

    private static void theLongestAgoLeaves() {
        PackedLists x = inOnes();
        x.at(0, 0);
        x.at(0, 1);
        x.at(0, 2);
        x.at(0, 3);
        x.at(0, 0);
        x.at(0, 4);
        inCache("block 1 leaves, as 0 had a hit", x, 0, 2, 3, 4);
        x.find(0, 35, 0);
        x.at(0, 5);
        inCache("block 3 leaves, as 2 had a hit by find()", x, 0, 2, 4, 5);
        x.at(0, 4);
        x.at(0, 4);
        x.at(0, 0);
        x.at(0, 6);
        inCache("block 2 leaves", x, 0, 4, 5, 6);
        x.at(0, 7);
        inCache("block 5 leaves", x, 0, 4, 6, 7);
        x.at(0, 7);
        x.at(0, 6);
        x.at(0, 0);
        x.at(0, 4);
        inCache("hits make none leave", x, 0, 4, 6, 7);
        x.at(0, 1);
        inCache("block 7 leaves, the last to come", x, 0, 1, 4, 6);
        looks("all looks", x, 9, 9);
    }

    private static void changesTakeOutAll() {
        DUE.of("Changes of a list take all of its blocks out of the cache, also those that stay as they are, and also "
                + "if the list is as before; undo() takes out all blocks of all lists.");
        for (int kind = 0; kind < 8; kind++) {
            PackedLists x = inOnes();
            Texts.query(x, "A");
            x.at(0, 7);
            x.at(1, 3);
            x.at(0, 0);
            x.at(2, 7);
            change(x, kind);
            String when = "change " + kind;
            DUE.is(when + ": blocks in the cache", x.count(3), 2);
            DUE.is(when + ": block 3 of list 1", x.cached(1, 3), 1);
            DUE.is(when + ": block 7 of list 2", x.cached(2, 7), 1);
            looks(when, x, 0, 4);
            x.at(3, 0);
            x.at(3, 1);
            x.at(3, 2);
            DUE.is(when + ": the longest ago leaves", x.cached(1, 3), 0);
            DUE.is(when + ": the next one stays", x.cached(2, 7), 1);
        }
        PackedLists empty = new PackedLists();
        empty.add(0, 1);
        empty.at(0, 0);
        empty.clear(1);
        DUE.is("a change of another, empty list", empty.cached(0, 0), 1);
        empty.add(0, 1);
        DUE.is("add() that is refused", empty.cached(0, 0), 1);
        empty.remove(0, 2);
        DUE.is("remove() that is refused", empty.cached(0, 0), 1);
        empty.pack(0, 65);
        DUE.is("pack() that is refused", empty.cached(0, 0), 1);
        Texts.load(empty, 0, "x");
        DUE.is("load() that is refused", empty.cached(0, 0), 1);
        empty.store(0);
        DUE.is("store() that is refused", empty.cached(0, 0), 1);
    }

    /** Changes of list 0; most of them leave it as it was. */
    private static void change(PackedLists x, int kind) {
        switch (kind) {
            case 0:
                x.pack(0, 1);
                break;
            case 1:
                x.add(0, 35);
                break;
            case 2:
                x.remove(0, 40);
                break;
            case 3:
                Texts.load(x, 0, "10,20,30,40,50,60,70,80");
                break;
            case 4:
                x.store(0);
                break;
            case 5:
                x.clear(0);
                break;
            case 6:
                x.pack(0, 0);
                break;
            default:
                x.add(0, 0);
                break;
        }
    }

    private static void undoTakesOutAll() {
        PackedLists x = inOnes();
        x.add(5, 1);
        x.at(0, 0);
        x.at(1, 1);
        x.at(2, 2);
        x.at(3, 3);
        x.undo();
        DUE.is("undo(), also of lists that stay", x.count(3), 0);
        DUE.is("undo(): block 0 of list 0", x.cached(0, 0), 0);
        looks("undo() leaves hits and misses", x, 0, 4);
        x.at(0, 0);
        looks("a block is missed again", x, 0, 5);
    }

    private static void nothingElseLooks() {
        DUE.of("Blocks are looked at by at() and find() as they say, and by nothing else.");
        PackedLists x = inOnes();
        x.at(0, 0);
        x.at(0, 1);
        x.at(0, 2);
        x.at(0, 3);
        x.cached(0, 0);
        x.list(0, 4);
        x.block(0, 0, 2);
        x.block(0, 5, 2);
        x.word(0, 0, 0);
        x.exception(0, 0, 0, 0);
        x.gaps(0, 4);
        x.costBy(0, 0);
        x.part(0, 0, 7, 1);
        x.common(0, 1, 0);
        Texts.query(x, "A&B|C");
        x.result(0);
        x.digest();
        x.add(0, 10);
        x.remove(0, 15);
        looks("no hits, no more misses", x, 0, 4);
        x.at(0, 4);
        inCache("block 0 leaves: none of them was a look", x, 1, 2, 3, 4);
    }

    // ---- promise 18

    private static void atLooksAtItsBlock() {
        DUE.of("Returns a number of a list, by looking at its block.");
        PackedLists x = new PackedLists();
        Texts.load(x, 0, "0,6,999999");
        x.pack(0, 1);
        x.add(0, 5);
        x.add(0, 9);
        x.add(0, 10);
        DUE.lengths("blocks", x, 0, 2, 3, 1);
        int[] numbers = {0, 5, 6, 9, 10, 999999};
        int[] blocks = {0, 0, 1, 1, 1, 2};
        for (int index = 0; index < numbers.length; index++) {
            x.add(0, 500);
            x.remove(0, 500);
            DUE.is("at(0, " + index + ")", x.at(0, index), numbers[index]);
            DUE.is("at(0, " + index + "): one block in the cache", x.count(3), 1);
            DUE.is("at(0, " + index + "): its own", x.cached(0, blocks[index]), 1);
        }
        looks("a miss each, as changes emptied the cache", x, 0, 6);
    }

    private static void atAnswers() {
        DUE.of("Returns the number; BAD.");
        PackedLists x = inOnes();
        DUE.is("at(0, -1)", x.at(0, -1), BAD);
        DUE.is("at(0, 8)", x.at(0, 8), BAD);
        DUE.is("at(-1, 0)", x.at(-1, 0), BAD);
        DUE.is("at(6, 0)", x.at(6, 0), BAD);
        x.clear(0);
        DUE.is("at(0, 0) of an empty list", x.at(0, 0), BAD);
        looks("refused calls look at nothing", x, 0, 0);
        Texts.load(x, 1, "999800-999999");
        DUE.is("the first of 200", x.at(1, 0), 999800);
        DUE.is("the last of 200", x.at(1, 199), 999999);
        DUE.is("behind the last of 200", x.at(1, 200), BAD);
    }

    // ---- promise 19

    private static void findLooksAtOneBlock() {
        DUE.of("Finds the first number of a list that is at least a value: if there is a block whose base is at most "
                + "the value, the last such block is looked at, and no other one, whatever is found.");
        int[][] due = {
            {0, 0, NONE}, {9, 0, NONE}, {10, 0, 0}, {11, 1, 0}, {12, 1, 0}, {13, 2, 0}, {19, 2, 0}, {20, 2, 1},
            {22, 3, 1}, {23, 4, 1}, {29, 4, 1}, {30, 4, 2}, {31, NONE, 2}, {999999, NONE, 2},
        };
        int[] numbers = {10, 12, 20, 22, 30};
        for (int[] row : due) {
            PackedLists x = new PackedLists();
            Texts.load(x, 0, "10,12,20,22,30");
            x.pack(0, 2);
            String call = "find(0, " + row[0] + ", ";
            DUE.is(call + "0)", x.find(0, row[0], 0), row[1]);
            looks(call + "0)", x, 0, row[2] == NONE ? 0 : 1);
            for (int block = 0; block < 3; block++) {
                DUE.is(call + "0): block " + block, x.cached(0, block), block == row[2] ? 1 : 0);
            }
            DUE.is(call + "1)", x.find(0, row[0], 1), row[1] == NONE ? NONE : numbers[row[1]]);
            looks(call + "1)", x, row[2] == NONE ? 0 : 1, row[2] == NONE ? 0 : 1);
        }
    }

    private static void findAnswers() {
        DUE.of("Returns the index or number; BAD; NONE if there is no such number.");
        PackedLists x = new PackedLists();
        DUE.is("an empty list", x.find(0, 0, 0), NONE);
        DUE.is("an empty list, the number", x.find(0, 999999, 1), NONE);
        looks("an empty list has no block", x, 0, 0);
        x.add(0, 999999);
        DUE.is("the greatest number", x.find(0, 999999, 1), 999999);
        DUE.is("before it", x.find(0, 0, 0), 0);
        x.add(1, 0);
        DUE.is("the least number", x.find(1, 0, 1), 0);
        DUE.is("behind it", x.find(1, 1, 1), NONE);
        looks("three of four", x, 1, 2);
        DUE.is("value -1", x.find(1, -1, 0), BAD);
        DUE.is("value 1000000", x.find(1, 1000000, 0), BAD);
        DUE.is("what -1", x.find(1, 0, -1), BAD);
        DUE.is("what 2", x.find(1, 0, 2), BAD);
        DUE.is("bad lists", x.find(-1, 0, 0) + x.find(6, 0, 0), BAD + BAD);
        looks("refused calls look at nothing", x, 1, 2);
        Texts.load(x, 2, "0-199");
        x.pack(2, 1);
        DUE.is("the last of 200 blocks", x.find(2, 199, 0), 199);
        DUE.is("is in the cache", x.cached(2, 199), 1);
    }

    // ---- promise 20

    private static void cachedTells() {
        DUE.of("Returns 1 if it is, otherwise 0; BAD.");
        PackedLists x = inOnes();
        DUE.is("at first", x.cached(0, 7), 0);
        x.at(0, 7);
        DUE.is("behind a look", x.cached(0, 7), 1);
        DUE.is("of another block", x.cached(0, 6), 0);
        DUE.is("of another list", x.cached(1, 7), 0);
        DUE.is("block -1", x.cached(0, -1), BAD);
        DUE.is("block 8", x.cached(0, 8), BAD);
        DUE.is("bad lists", x.cached(-1, 0) + x.cached(6, 0), BAD + BAD);
        x.pack(0, 4);
        DUE.is("a block that there was", x.cached(0, 7), BAD);
        x.pack(0, 1);
        DUE.is("a block that there is again", x.cached(0, 7), 0);
        x.clear(0);
        DUE.is("an empty list", x.cached(0, 0), BAD);
    }
}
