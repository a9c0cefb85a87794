/** The description of costs, and promises 4, 16 and 17: best widths, and how lists are packed. */
public final class CostBoundsTest {
    private static final int BAD = PackedLists.BAD;
    private static final Sentences DUE = new Sentences("CostBoundsTest");

    public static void main(String[] args) {
        exceptionsNeedMoreBits();
        costOfABlock();
        theLeastOfSeveralWidths();
        theBestWidthAtAnyTime();
        costOfAList();
        theLeastCost();
        theFewestBlocks();
        theLeastLengths();
        byALength();
        nothingOfBefore();
        packsAnew();
        costByChangesNothing();
        partsAsOneBlock();
        DUE.finish();
    }

    /** List 0 with one number more than there are gaps, as one block. */
    private static PackedLists withGaps(int... gaps) {
        PackedLists x = new PackedLists();
        int number = 0;
        x.add(0, number);
        for (int gap : gaps) {
            number += gap + 1;
            x.add(0, number);
        }
        x.pack(0, 64);
        return x;
    }

    /** So many equal gaps, and another one in their middle. */
    private static int[] equalBut(int times, int gap, int other) {
        int[] gaps = new int[times + 1];
        java.util.Arrays.fill(gaps, gap);
        gaps[times / 2] = other;
        return gaps;
    }

    private static void block(String when, PackedLists x, int width, int exceptions, int cost) {
        DUE.is(when + ": width", x.block(0, 0, 3), width);
        DUE.is(when + ": exceptions", x.block(0, 0, 4), exceptions);
        DUE.is(when + ": cost", x.block(0, 0, 5), cost);
    }

    private static void packed(String text, int cost, int... lengths) {
        PackedLists x = new PackedLists();
        Texts.load(x, 0, text);
        DUE.lengths("load of " + text, x, 0, lengths);
        DUE.is("cost of " + text, x.list(0, 2), cost);
        x.pack(0, 1);
        DUE.is("costBy() of " + text, x.costBy(0, 0), cost);
        DUE.is("pack() of " + text, x.pack(0, 0), cost);
        DUE.lengths("pack of " + text, x, 0, lengths);
    }

    /** "0,16,32,.." from a number on, so many numbers. */
    private static String row(int first, int step, int times) {
        StringBuilder text = new StringBuilder();
        for (int index = 0; index < times; index++) {
            text.append(index == 0 ? "" : ",").append(first + step * index);
        }
        return text.toString();
    }

    // ---- Costs

    private static void exceptionsNeedMoreBits() {
        DUE.of("A block of n numbers with a width w, 0 to 20, has as exceptions the gaps that need more than w bits, "
                + "e of them.");
        block("a gap that needs just w bits", withGaps(equalBut(40, 4, 7)), 3, 0, 32 + 3 * 41);
        block("a gap that needs one bit more", withGaps(equalBut(40, 4, 8)), 3, 1, 32 + 3 * 41 + 28);
        block("width 0", withGaps(equalBut(40, 0, 1)), 0, 1, 32 + 28);
        block("width 20", withGaps(999998), 20, 0, 52);
        block("width 20 of the least such gap", withGaps(524288), 20, 0, 52);
        block("width 19", withGaps(524287), 19, 0, 51);
        block("no gap", withGaps(), 0, 0, 32);
    }

    private static void costOfABlock() {
        DUE.of("Its cost is 32 + w * (n - 1) + 28 * e bits.");
        block("one number", withGaps(), 0, 0, 32);
        block("two numbers, w = 0", withGaps(0), 0, 0, 32);
        block("two numbers, w = 1", withGaps(1), 1, 0, 33);
        int[] gaps = new int[63];
        java.util.Arrays.fill(gaps, 8191);
        block("64 numbers, w = 13", withGaps(gaps), 13, 0, 32 + 13 * 63);
        gaps[0] = 100000;
        gaps[62] = 100000;
        block("64 numbers, two exceptions", withGaps(gaps), 13, 2, 32 + 13 * 63 + 56);
    }

    private static void theLeastOfSeveralWidths() {
        DUE.of("The best width of a sequence of numbers is the one with the least cost, of several the least one; "
                + "each block has the best width of its numbers at any time.");
        block("27 gaps: 4 bits cost less", withGaps(equalBut(26, 7, 8)), 4, 0, 32 + 4 * 27);
        block("28 gaps: both cost the same", withGaps(equalBut(27, 7, 8)), 3, 1, 32 + 4 * 28);
        block("29 gaps: 3 bits cost less", withGaps(equalBut(28, 7, 8)), 3, 1, 32 + 3 * 29 + 28);
        int[] three = new int[28];
        three[5] = 1;
        three[6] = 2;
        block("0, 1 and 2 bits cost the same", withGaps(three), 0, 2, 32 + 56);
        three[7] = 1;
        block("1 and 2 bits cost the same", withGaps(three), 1, 1, 32 + 56);
        three[8] = 3;
        block("2 bits cost less", withGaps(three), 2, 0, 32 + 56);
    }

    private static void theBestWidthAtAnyTime() {
        PackedLists x = withGaps(9);
        block("at first", x, 4, 0, 36);
        x.add(0, 11);
        block("behind add()", x, 4, 0, 40);
        x.remove(0, 10);
        block("behind remove()", x, 4, 0, 36);
        x.add(0, 999999);
        block("with a gap of 20 bits", x, 4, 1, 68);
        x.remove(0, 11);
        block("without the middle number", x, 20, 0, 52);
        x.add(0, 1);
        block("with a gap of no bits", x, 0, 1, 60);
        x.remove(0, 0);
        block("without the base", x, 20, 0, 52);
        x.undo();
        block("behind undo()", x, 0, 1, 60);
        x.remove(0, 999999);
        block("without the exception", x, 0, 0, 32);
    }

    private static void costOfAList() {
        DUE.of("The cost of a list is the sum of the costs of its blocks.");
        PackedLists x = withGaps(0, 9, 1);
        DUE.is("one block", x.list(0, 2), 32 + 12);
        DUE.is("two blocks", x.pack(0, 2), 32 + 33);
        DUE.is("list(0, 2) of two blocks", x.list(0, 2), 65);
        DUE.is("four blocks", x.pack(0, 1), 128);
        x.clear(0);
        DUE.is("no blocks", x.list(0, 2), 0);
    }

    private static void theLeastCost() {
        DUE.of("To pack a list as well as possible means to cut it so that its cost is least; of several ways the one "
                + "with the fewest blocks; of several the one whose sequence of block lengths is least (the first "
                + "lengths that differ are compared).");
        packed("", 0);
        packed("0", 32, 1);
        packed("0,999999", 52, 2);
        packed(row(0, 32, 11) + "," + row(1320, 32, 11), 32 + 50 + 32 + 50, 11, 11);
        packed(row(0, 8, 11) + "," + row(1080, 8, 11), 32 + 3 * 21 + 28, 22);
        packed("0-20," + row(1000, 1000, 8), 32 + 32 + 7 * 10, 21, 8);
        packed(row(0, 1000, 8) + ",7001-7021", 32 + 6 * 10 + 32, 7, 22);
        packed("0-63,65", 64, 64, 1);
    }

    /** With 4 bits, an exception costs as much in a block as a cut. */
    private static void theFewestBlocks() {
        packed(row(0, 16, 11) + "," + row(1160, 16, 11), 32 + 4 * 21 + 28, 22);
        packed(row(0, 16, 6) + "," + row(1080, 16, 6) + "," + row(2160, 16, 6), 32 + 4 * 17 + 56, 18);
        packed("0-63", 32, 64);
    }

    private static void theLeastLengths() {
        packed("0-64", 64, 1, 64);
        packed("0-99", 64, 36, 64);
        packed("0-127", 64, 64, 64);
        packed("0-128", 96, 1, 64, 64);
        packed("0-199", 128, 8, 64, 64, 64);
        packed("0-39,50-89", 64, 40, 40);
        packed("0-30,32,34,36,38,40-70", 32 + 32 + 34, 31, 35);
        packed("0-10,12,14,16,18,20,25,30,35,40,45,50,55", 32 + 32 + 3 * 11, 11, 12);
        packed("0-69,100-169", 32 + 60 + 32, 12, 64, 64);
    }

    private static void byALength() {
        DUE.of("To pack it by a length k means that all blocks have k numbers, but perhaps the last one fewer.");
        PackedLists x = new PackedLists();
        Texts.load(x, 0, "0-127");
        x.pack(0, 64);
        DUE.lengths("128 by 64", x, 0, 64, 64);
        x.pack(0, 63);
        DUE.lengths("128 by 63", x, 0, 63, 63, 2);
        x.pack(0, 43);
        DUE.lengths("128 by 43", x, 0, 43, 43, 42);
        x.remove(0, 0);
        x.pack(0, 63);
        DUE.lengths("127 by 63", x, 0, 63, 63, 1);
        x.remove(0, 1);
        x.pack(0, 63);
        DUE.lengths("126 by 63", x, 0, 63, 63);
        Texts.load(x, 1, "3,4,5");
        x.pack(1, 64);
        DUE.lengths("3 by 64", x, 1, 3);
        x.pack(1, 3);
        DUE.lengths("3 by 3", x, 1, 3);
        x.pack(1, 2);
        DUE.lengths("3 by 2", x, 1, 2, 1);
        x.pack(1, 1);
        DUE.lengths("3 by 1", x, 1, 1, 1, 1);
        x.pack(2, 1);
        DUE.lengths("0 by 1", x, 2);
        x.pack(2, 64);
        DUE.lengths("0 by 64", x, 2);
    }

    // ---- promises 4, 16 and 17

    /** What was packed before, longer or shorter, wider or narrower, has no part in it. */
    private static void nothingOfBefore() {
        DUE.of("Packs a list anew.");
        String full = "0-199";
        String wide = "0-150,400000,800000";
        String tie = "0-10,12,14,16,18,20,25,30,35,40,45,50,55";
        for (String before : new String[] {full, wide, "7", "", "0-64", "0-63,999999"}) {
            PackedLists x = new PackedLists();
            Texts.load(x, 0, before);
            DUE.is("a tie behind " + before, Texts.load(x, 1, tie), 23);
            DUE.lengths("a tie behind " + before, x, 1, 11, 12);
            DUE.is("its cost behind " + before, x.costBy(1, 0), 97);
            x.costBy(0, 0);
            DUE.is("costBy() of none behind " + before, x.costBy(2, 0), 0);
            x.pack(0, 0);
            x.add(3, 5);
            DUE.is("costBy() of one number behind " + before, x.costBy(3, 0), 32);
            x.costBy(0, 0);
            Texts.load(x, 4, full);
            DUE.lengths("200 numbers behind " + before, x, 4, 8, 64, 64, 64);
            x.costBy(0, 0);
            DUE.is("costBy() of 200 numbers behind " + before, x.costBy(4, 0), 128);
        }
    }

    private static void packsAnew() {
        DUE.of("0 to pack it as well as possible, or the length of blocks by which it is packed, 1 to 64");
        PackedLists x = new PackedLists();
        Texts.load(x, 0, "0-64");
        DUE.is("pack(0, -1)", x.pack(0, -1), BAD);
        DUE.is("pack(0, 65)", x.pack(0, 65), BAD);
        DUE.is("costBy(0, -1)", x.costBy(0, -1), BAD);
        DUE.is("costBy(0, 65)", x.costBy(0, 65), BAD);
        DUE.lengths("refused calls cut nothing", x, 0, 1, 64);
        DUE.is("pack(0, 64)", x.pack(0, 64), 64);
        DUE.lengths("by 64", x, 0, 64, 1);
        DUE.is("pack(0, 1)", x.pack(0, 1), 65 * 32);
        DUE.is("by 1", x.list(0, 1), 65);
        DUE.is("pack(0, 0)", x.pack(0, 0), 64);
        DUE.lengths("as well as possible", x, 0, 1, 64);
        DUE.of("Returns the cost of the list then; BAD.");
        DUE.is("pack(1, 0) of an empty list", x.pack(1, 0), 0);
        DUE.is("pack(1, 1) of an empty list", x.pack(1, 1), 0);
        DUE.is("bad lists", x.pack(-1, 0) + x.pack(6, 0), BAD + BAD);
        Texts.load(x, 2, "0-199");
        DUE.is("200 blocks", x.pack(2, 1), 6400);
        DUE.is("four blocks", x.pack(2, 0), 128);
    }

    private static void costByChangesNothing() {
        DUE.of("Returns what a list would cost if it was packed in another way.");
        PackedLists x = new PackedLists();
        Texts.load(x, 0, "0-69,999999");
        x.pack(0, 5);
        x.at(0, 70);
        int cost = x.list(0, 2);
        long before = x.digest();
        DUE.is("by 64", x.costBy(0, 64), 32 + 32 + 28);
        DUE.is("by 1", x.costBy(0, 1), 71 * 32);
        DUE.is("by 5, as it is", x.costBy(0, 5), cost);
        DUE.is("as well as possible", x.costBy(0, 0), 92);
        DUE.is("the block in the cache stays", x.cached(0, 14), 1);
        DUE.is("nothing changes", x.digest(), before);
        DUE.is("200 blocks", costOf200(1), 6400);
        DUE.is("four blocks", costOf200(64), 128);
        DUE.is("no numbers by 0, 1 and 64", x.costBy(1, 0) + x.costBy(1, 1) + x.costBy(1, 64), 0);
        DUE.is("bad lists", x.costBy(-1, 0) + x.costBy(6, 0), BAD + BAD);
    }

    private static int costOf200(int length) {
        PackedLists x = new PackedLists();
        Texts.load(x, 0, "0-199");
        return x.costBy(0, length);
    }

    private static void partsAsOneBlock() {
        DUE.of("Returns what a part of a list would be as one block.");
        PackedLists x = new PackedLists();
        Texts.load(x, 0, "0-100,102,200");
        x.pack(0, 10);
        DUE.is("across blocks: cost", x.part(0, 5, 25, 1), 32);
        DUE.is("gaps 1 and 97: width", x.part(0, 100, 102, 0), 7);
        DUE.is("gaps 1 and 97: cost", x.part(0, 100, 102, 1), 46);
        DUE.is("gaps 1 and 97: exceptions", x.part(0, 100, 102, 2), 0);
        DUE.is("28 gaps, both of 0 and 1 bit: width", x.part(0, 73, 101, 0), 0);
        DUE.is("28 gaps, both of 0 and 1 bit: exceptions", x.part(0, 73, 101, 2), 1);
        DUE.is("27 gaps: width", x.part(0, 74, 101, 0), 1);
        DUE.is("27 gaps: exceptions", x.part(0, 74, 101, 2), 0);
        DUE.of("the index of its last number, from first to first + 63");
        DUE.is("before first", x.part(0, 10, 9, 1), BAD);
        DUE.is("first", x.part(0, 10, 10, 1), 32);
        DUE.is("first + 63", x.part(0, 10, 73, 1), 32);
        DUE.is("first + 64", x.part(0, 10, 74, 1), BAD);
        DUE.is("the last 64 numbers", x.part(0, 39, 102, 2), 2);
        DUE.is("the first 64 numbers", x.part(0, 0, 63, 0), 0);
        DUE.is("the last number", x.part(0, 102, 102, 0), 0);
        DUE.is("behind the last number", x.part(0, 102, 103, 0), BAD);
        DUE.is("outside", x.part(0, 103, 103, 0), BAD);
        DUE.is("before the first number", x.part(0, -1, 5, 0), BAD);
        DUE.is("first + 63 beyond all ints", x.part(0, Integer.MAX_VALUE, Integer.MIN_VALUE, 0), BAD);
        DUE.is("far apart", x.part(0, Integer.MIN_VALUE, Integer.MAX_VALUE, 0), BAD);
        DUE.is("far behind", x.part(0, 0, Integer.MAX_VALUE, 0), BAD);
        DUE.is("what -1", x.part(0, 0, 1, -1), BAD);
        DUE.is("what 3", x.part(0, 0, 1, 3), BAD);
        DUE.is("bad lists", x.part(-1, 0, 0, 0) + x.part(6, 0, 0, 0), BAD + BAD);
        DUE.is("an empty list", x.part(1, 0, 0, 0), BAD);
    }
}
