/** The description of lists, and promises 2, 3, 11 and 15: how many numbers and blocks there can be, and where. */
public final class ListBoundsTest {
    private static final int NONE = PackedLists.NONE, BAD = PackedLists.BAD, STATE = PackedLists.STATE,
            FULL = PackedLists.FULL;
    private static final Sentences DUE = new Sentences("ListBoundsTest");

    public static void main(String[] args) {
        sixListsEmptyAtFirst();
        atMost200Numbers();
        numbersFrom0To999999();
        blocksOf1To64();
        emptyListsHaveNoBlocks();
        basesAndGaps();
        bitsOfGaps();
        addPutsANumberIn();
        addChoosesTheBlock();
        addCutsAt65();
        addLeavesOtherBlocks();
        addAnswers();
        removeTakesANumberOut();
        removeDropsEmptyBlocks();
        removeLeavesOtherBlocks();
        removeAnswers();
        propertiesOfLists();
        gapsBetweenBlocks();
        DUE.finish();
    }

    private static PackedLists loaded(String text) {
        PackedLists x = new PackedLists();
        Texts.load(x, 0, text);
        return x;
    }

    private static PackedLists packed(String text, int length) {
        PackedLists x = loaded(text);
        x.pack(0, length);
        return x;
    }

    // ---- Lists

    private static void sixListsEmptyAtFirst() {
        DUE.of("There are the lists 0 to 5, empty at first.");
        PackedLists x = new PackedLists();
        for (int list = 0; list <= 5; list++) {
            DUE.is("how many numbers list " + list + " has", x.list(list, 0), 0);
            DUE.is("clear(" + list + ")", x.clear(list), 0);
            DUE.is("add(" + list + ", 3)", x.add(list, 3), 0);
        }
        DUE.is("the list before the first", x.list(-1, 0), BAD);
        DUE.is("the list behind the last", x.list(6, 0), BAD);
        for (int list = 0; list <= 5; list++) {
            DUE.is("what list " + list + " has then", x.list(list, 0), 1);
        }
    }

    private static void atMost200Numbers() {
        DUE.of("A list has at most 200 different numbers from 0 to 999999 in ascending order; their indices are "
                + "counted from 0.");
        PackedLists x = loaded("1-199");
        DUE.is("a 200th number", x.add(0, 999999), 199);
        DUE.is("a 201st number", x.add(0, 500), FULL);
        DUE.is("numbers", x.list(0, 0), 200);
        DUE.is("remove one", x.remove(0, 100), 99);
        DUE.is("another 200th number", x.add(0, 0), 0);
        DUE.is("another 201st number", x.add(0, 100), FULL);
        DUE.is("200 by load()", Texts.load(x, 1, "0-99,200-299"), 200);
        DUE.is("201 by load()", Texts.load(x, 2, "0-99,200-300"), -2012);
        DUE.is("200 by store()", Texts.query(x, "B"), 200);
        DUE.is("store() of 200", x.store(2), 200);
        DUE.is("the first index", x.at(2, 0), 0);
        DUE.is("the last index", x.at(2, 199), 299);
        DUE.is("no index 200", x.at(2, 200), BAD);
        x.add(3, 300);
        DUE.is("201 by query()", Texts.query(x, "B|D"), 201);
        DUE.is("store() of 201", x.store(3), FULL);
        PackedLists y = new PackedLists();
        for (int value : new int[] {70, 10, 999999, 50, 0, 60}) {
            y.add(0, value);
        }
        DUE.numbers("ascending, in whatever order they came", y, 0, 0, 10, 50, 60, 70, 999999);
        DUE.is("different: 50 again", y.add(0, 50), STATE);
    }

    private static void numbersFrom0To999999() {
        PackedLists x = new PackedLists();
        DUE.is("-1", x.add(0, -1), BAD);
        DUE.is("0", x.add(0, 0), 0);
        DUE.is("999999", x.add(0, 999999), 1);
        DUE.is("1000000", x.add(0, 1000000), BAD);
        DUE.is("0 and 999999 by load()", Texts.load(x, 1, "0,999999"), 2);
        DUE.is("1000000 by load()", Texts.load(x, 1, "0,1000000"), -2008);
        DUE.is("the least", x.list(1, 4), 0);
        DUE.is("the greatest", x.list(1, 5), 999999);
    }

    private static void blocksOf1To64() {
        DUE.of("A list is cut into blocks, numbered from 0: sequences of 1 to 64 successive numbers of the list, "
                + "which follow one another; an empty list has no blocks.");
        PackedLists x = loaded("0-63");
        DUE.lengths("64 numbers of the least cost", x, 0, 64);
        x = loaded("0-64");
        DUE.lengths("65 numbers of the least cost", x, 0, 1, 64);
        x = loaded("0-127");
        DUE.lengths("128 numbers", x, 0, 64, 64);
        x = loaded("0-128");
        DUE.lengths("129 numbers", x, 0, 1, 64, 64);
        x = loaded("0-199");
        DUE.lengths("200 numbers", x, 0, 8, 64, 64, 64);
        x.pack(0, 64);
        DUE.lengths("200 numbers by 64", x, 0, 64, 64, 64, 8);
        x.pack(0, 1);
        DUE.is("200 numbers by 1", x.list(0, 1), 200);
        DUE.is("the first of 200 blocks", x.block(0, 0, 2), 0);
        DUE.is("the last of 200 blocks", x.block(0, 199, 2), 199);
        DUE.is("its length", x.block(0, 199, 1), 1);
        DUE.is("no block 200", x.block(0, 200, 0), BAD);
        DUE.is("no block -1", x.block(0, -1, 0), BAD);
    }

    private static void emptyListsHaveNoBlocks() {
        PackedLists x = new PackedLists();
        noBlocks("a new list", x);
        x.pack(0, 0);
        noBlocks("packed as well as possible", x);
        x.pack(0, 1);
        noBlocks("packed by a length", x);
        x.add(0, 5);
        x.remove(0, 5);
        noBlocks("behind remove()", x);
        Texts.load(x, 0, "1-100");
        x.clear(0);
        noBlocks("behind clear()", x);
        Texts.load(x, 0, "1-100");
        Texts.load(x, 0, " ");
        noBlocks("behind load()", x);
        Texts.load(x, 0, "1-100");
        Texts.query(x, "A-A");
        x.store(0);
        noBlocks("behind store()", x);
        x.add(0, 1);
        x.undo();
        noBlocks("behind undo()", x);
    }

    private static void noBlocks(String when, PackedLists x) {
        int[] properties = {0, 0, 0, 0, NONE, NONE};
        for (int what = 0; what < properties.length; what++) {
            DUE.is("empty, " + when + ": list(0, " + what + ")", x.list(0, what), properties[what]);
        }
        DUE.is("empty, " + when + ": block(0, 0, 0)", x.block(0, 0, 0), BAD);
        DUE.is("empty, " + when + ": costBy(0, 0)", x.costBy(0, 0), 0);
        DUE.is("empty, " + when + ": costBy(0, 1)", x.costBy(0, 1), 0);
    }

    private static void basesAndGaps() {
        DUE.of("The base of a block is its first number.");
        PackedLists x = packed("0,5,6,999998,999999", 2);
        DUE.is("of the first block", x.block(0, 0, 2), 0);
        DUE.is("of the middle one", x.block(0, 1, 2), 6);
        DUE.is("of the last, with one number", x.block(0, 2, 2), 999999);
        DUE.of("For each other number of a block, its gap is the number minus the number before it, minus 1.");
        DUE.is("gap 4: width", x.block(0, 0, 3), 3);
        DUE.is("gap 4: word", x.word(0, 0, 0), 4);
        DUE.is("gap 999991: word", x.word(0, 1, 0), 999991);
        DUE.is("no gap of the base", x.word(0, 2, 0), BAD);
        DUE.is("the greatest gap", packed("0,999999", 2).word(0, 0, 0), 999998);
        DUE.is("the least gap needs no word", packed("7,8", 2).block(0, 0, 6), 0);
        DUE.is("the next gap needs one", packed("7,9", 2).block(0, 0, 6), 1);
    }

    private static void bitsOfGaps() {
        DUE.of("A gap needs w bits if it is less than 2^w, and not less than 2^(w - 1) (the gap 0 needs 0 bits).");
        needs(0, 0);
        for (int w = 1; w <= 20; w++) {
            needs(1 << w - 1, w);
            needs(Math.min((1 << w) - 1, 999998), w);
        }
    }

    private static void needs(int gap, int bits) {
        PackedLists x = new PackedLists();
        x.add(0, 0);
        x.add(0, gap + 1);
        for (int asked = 0; asked <= 20; asked++) {
            DUE.is("gap " + gap + ": gaps(0, " + asked + ")", x.gaps(0, asked), asked == bits ? 1 : 0);
        }
        DUE.is("gap " + gap + ": width", x.block(0, 0, 3), bits);
        DUE.is("gap " + gap + ": cost", x.list(0, 2), 32 + bits);
    }

    // ---- promise 2

    private static void addPutsANumberIn() {
        DUE.of("Puts a number into a list.");
        PackedLists x = loaded("10,20");
        DUE.is("before all", x.add(0, 0), 0);
        DUE.is("in the middle", x.add(0, 15), 2);
        DUE.is("behind all", x.add(0, 999999), 4);
        DUE.numbers("then", x, 0, 0, 10, 15, 20, 999999);
        DUE.is("the other lists have none", x.count(0), 5);
    }

    private static void addChoosesTheBlock() {
        DUE.of("It comes into the last block whose base is less than it, or the first block if there is none; an "
                + "empty list gets a block.");
        String text = "10,11,20,21,30,31";
        int[][] places = {{0, 0}, {9, 0}, {12, 0}, {19, 0}, {22, 1}, {29, 1}, {32, 2}, {999999, 2}};
        for (int[] place : places) {
            PackedLists x = packed(text, 2);
            x.add(0, place[0]);
            for (int block = 0; block < 3; block++) {
                DUE.is(place[0] + ": length of block " + block, x.block(0, block, 1), block == place[1] ? 3 : 2);
            }
            DUE.is(place[0] + ": number of blocks", x.list(0, 1), 3);
        }
        PackedLists one = packed(text, 1);
        one.add(0, 12);
        DUE.lengths("behind the nearest base, in blocks of one", one, 0, 1, 2, 1, 1, 1, 1);
        one.add(0, 5);
        DUE.lengths("before all bases", one, 0, 2, 2, 1, 1, 1, 1);
        DUE.is("the first block's new base", one.block(0, 0, 2), 5);
        PackedLists empty = new PackedLists();
        empty.add(0, 500);
        DUE.lengths("an empty list", empty, 0, 1);
        DUE.is("its base", empty.block(0, 0, 2), 500);
        empty.remove(0, 500);
        empty.add(0, 0);
        DUE.lengths("a list that is empty again", empty, 0, 1);
    }

    private static void addCutsAt65() {
        DUE.of("If this block has 65 numbers then, it is cut into one with 32 numbers and, behind it, one with 33 "
                + "numbers.");
        PackedLists x = packed("100-162", 64);
        x.add(0, 163);
        DUE.lengths("64 numbers stay together", x, 0, 64);
        for (int value : new int[] {0, 99, 164, 999999}) {
            PackedLists y = packed("100-163", 64);
            y.add(0, value);
            DUE.lengths("64 numbers and " + value, y, 0, 32, 33);
            DUE.is("base behind the cut, with " + value, y.block(0, 1, 2), value < 100 ? 131 : 132);
        }
        PackedLists w = packed("1-40,100-139", 40);
        w.add(0, 50);
        DUE.lengths("41 numbers before 40", w, 0, 41, 40);
        w.add(0, 150);
        DUE.lengths("41 numbers behind 41", w, 0, 41, 41);
        PackedLists z = packed("0,2,4,6,8-27,30-69", 64);
        z.add(0, 29);
        DUE.lengths("64 numbers and one in the middle", z, 0, 32, 33);
        DUE.is("base behind the cut", z.block(0, 1, 2), 37);
        DUE.is("the first half's own width", z.block(0, 0, 3), 1);
        DUE.is("the second half's own width", z.block(0, 1, 3), 0);
        PackedLists full = packed("0-127,200-270", 64);
        full.add(0, 300);
        DUE.lengths("the last block with the 200th number", full, 0, 64, 64, 64, 8);
        full = packed("0-127,200-270", 64);
        full.add(0, 150);
        DUE.lengths("a middle block with the 200th number", full, 0, 64, 32, 33, 64, 7);
    }

    private static void addLeavesOtherBlocks() {
        DUE.of("All other blocks stay as they are.");
        PackedLists x = packed("1-9", 1);
        x.add(0, 0);
        DUE.lengths("though one block would cost less", x, 0, 2, 1, 1, 1, 1, 1, 1, 1, 1);
        x.add(0, 100);
        DUE.lengths("though one block would cost less still", x, 0, 2, 1, 1, 1, 1, 1, 1, 1, 2);
        PackedLists y = packed("0-63,100-163", 64);
        y.add(0, 80);
        DUE.lengths("the block behind a cut", y, 0, 32, 33, 64);
        DUE.is("its base", y.block(0, 2, 2), 100);
        y.remove(0, 130);
        DUE.lengths("the blocks before", y, 0, 32, 33, 63);
    }

    private static void addAnswers() {
        DUE.of("Returns its index; BAD; STATE if it is in the list; FULL if there are 200 numbers.");
        PackedLists x = packed("2-200", 7);
        DUE.is("the least", x.add(0, 2), STATE);
        DUE.is("the greatest", x.add(0, 200), STATE);
        DUE.is("the index of the 200th", x.add(0, 201), 199);
        DUE.is("the 201st", x.add(0, 1), FULL);
        DUE.is("the 201st, in the list", x.add(0, 201), STATE);
        DUE.is("bad lists", x.add(-1, 1) + x.add(6, 1), BAD + BAD);
        DUE.is("bad values", x.add(0, -1) + x.add(0, 1000000), BAD + BAD);
        DUE.is("another list is not full", x.add(1, 201), 0);
    }

    // ---- promise 3

    private static void removeTakesANumberOut() {
        DUE.of("Takes a number out of a list, and its block.");
        PackedLists x = packed("0,10,20,30,999999", 2);
        DUE.is("the least", x.remove(0, 0), 0);
        DUE.is("the new base", x.block(0, 0, 2), 10);
        DUE.is("the greatest", x.remove(0, 999999), 3);
        DUE.is("one in the middle", x.remove(0, 20), 1);
        DUE.lengths("then", x, 0, 1, 1);
        DUE.numbers("then", x, 0, 10, 30);
    }

    private static void removeDropsEmptyBlocks() {
        DUE.of("A block that becomes empty is removed.");
        for (int gone = 0; gone < 3; gone++) {
            PackedLists x = packed("10,11,20,21,30,31", 2);
            x.remove(0, 10 + 10 * gone);
            DUE.is("block " + gone + " with one number stays", x.list(0, 1), 3);
            x.remove(0, 11 + 10 * gone);
            DUE.lengths("block " + gone + " without numbers goes", x, 0, 2, 2);
            DUE.is("base of the first one left", x.block(0, 0, 2), gone == 0 ? 20 : 10);
            DUE.is("base of the last one left", x.block(0, 1, 2), gone == 2 ? 20 : 30);
        }
        PackedLists y = loaded("5");
        y.remove(0, 5);
        DUE.is("the only block", y.list(0, 1), 0);
        DUE.is("the only number", y.list(0, 0), 0);
    }

    private static void removeLeavesOtherBlocks() {
        DUE.of("All other blocks stay as they are.");
        PackedLists x = packed("0-8", 2);
        x.remove(0, 3);
        DUE.lengths("no blocks are joined", x, 0, 2, 1, 2, 2, 1);
        x.remove(0, 2);
        DUE.lengths("nor when one has gone", x, 0, 2, 2, 2, 1);
        PackedLists full = packed("0-199", 1);
        full.remove(0, 0);
        DUE.is("199 of 200 blocks", full.list(0, 1), 199);
        DUE.is("the last of them", full.block(0, 198, 2), 199);
        full.remove(0, 199);
        DUE.is("198 of 200 blocks", full.list(0, 1), 198);
        DUE.is("the last of these", full.block(0, 197, 2), 198);
    }

    private static void removeAnswers() {
        DUE.of("Returns the index that it had; BAD; STATE if it is not in the list.");
        PackedLists x = packed("0,10,999999", 1);
        DUE.is("a number between", x.remove(0, 9), STATE);
        DUE.is("a number in range behind all but one", x.remove(0, 999998), STATE);
        DUE.is("the number of another list", x.remove(1, 10), STATE);
        DUE.is("bad lists", x.remove(-1, 10) + x.remove(6, 10), BAD + BAD);
        DUE.is("bad values", x.remove(0, -1) + x.remove(0, 1000000), BAD + BAD);
        DUE.is("the greatest", x.remove(0, 999999), 2);
        DUE.is("the greatest again", x.remove(0, 999999), STATE);
        DUE.is("the least", x.remove(0, 0), 0);
        DUE.is("the last one", x.remove(0, 10), 0);
        DUE.is("of an empty list", x.remove(0, 10), STATE);
        PackedLists full = packed("0-199", 64);
        DUE.is("of a full list", full.remove(0, 199), 199);
    }

    // ---- promises 11 and 15

    private static void propertiesOfLists() {
        DUE.of("0: how many numbers it has; 1: how many blocks; 2: its cost; 3: how many exceptions; 4: its least "
                + "number; 5: its greatest number (4 and 5: NONE if it is empty)");
        PackedLists x = loaded("0");
        int[] one = {1, 1, 32, 0, 0, 0};
        for (int what = 0; what < one.length; what++) {
            DUE.is("one number: list(0, " + what + ")", x.list(0, what), one[what]);
        }
        x = packed("0-199", 1);
        int[] full = {200, 200, 6400, 0, 0, 199};
        for (int what = 0; what < full.length; what++) {
            DUE.is("200 blocks: list(0, " + what + ")", x.list(0, what), full[what]);
        }
        x = packed("0-30,5000-5030,999999", 32);
        int[] exceptional = {63, 2, 32 + 28 + 32 + 28, 2, 0, 999999};
        for (int what = 0; what < exceptional.length; what++) {
            DUE.is("two exceptions: list(0, " + what + ")", x.list(0, what), exceptional[what]);
        }
        DUE.is("list(0, -1)", x.list(0, -1), BAD);
        DUE.is("list(0, 6)", x.list(0, 6), BAD);
        DUE.is("list(1, 4) of an empty list", x.list(1, 4), NONE);
        DUE.is("list(1, 5) of an empty list", x.list(1, 5), NONE);
    }

    private static void gapsBetweenBlocks() {
        DUE.of("Counts the gaps of a list that need so many bits; all gaps between successive numbers count, whether "
                + "they are in the same block or not.");
        for (int length : new int[] {0, 1, 2, 3, 64}) {
            PackedLists x = packed("0,1,3,6,10,999999", length);
            int[] some = {1, 1, 2};
            for (int bits = 0; bits < some.length; bits++) {
                DUE.is("by " + length + ": gaps(0, " + bits + ")", x.gaps(0, bits), some[bits]);
            }
            DUE.is("by " + length + ": gaps(0, 19)", x.gaps(0, 19), 0);
            DUE.is("by " + length + ": gaps(0, 20)", x.gaps(0, 20), 1);
        }
        DUE.is("199 gaps of 200 blocks", packed("0-199", 1).gaps(0, 0), 199);
        DUE.is("no gap of one number", loaded("7").gaps(0, 0), 0);
        DUE.is("no gap of no number", loaded("").gaps(0, 0), 0);
        DUE.is("gaps(0, -1)", loaded("7,8").gaps(0, -1), BAD);
        DUE.is("gaps(0, 21)", loaded("7,8").gaps(0, 21), BAD);
    }
}
