import java.math.BigInteger;
import java.util.Arrays;

/** The description of words, and promises 12, 13 and 14: blocks, their words and their exceptions. */
public final class WordBoundsTest {
    private static final int BAD = PackedLists.BAD;
    private static final Sentences DUE = new Sentences("WordBoundsTest");

    public static void main(String[] args) {
        lowParts();
        withoutRoomBetween();
        bitsOfWords();
        highParts();
        propertiesOfBlocks();
        numberOfWords();
        bitsBehindTheLast();
        noSuchWord();
        exceptionsInOrder();
        noSuchException();
        DUE.finish();
    }

    /** List 0 as one block with these gaps; the base is 3. */
    private static PackedLists withGaps(int... gaps) {
        PackedLists x = new PackedLists();
        int number = 3;
        x.add(0, number);
        for (int gap : gaps) {
            number += gap + 1;
            x.add(0, number);
        }
        return x;
    }

    private static int[] equal(int times, int gap) {
        int[] gaps = new int[times];
        Arrays.fill(gaps, gap);
        return gaps;
    }

    /** Gaps from 8192 on: 14 bits each, and each another one. */
    private static int[] wideGaps(int times) {
        int[] gaps = new int[times];
        for (int index = 0; index < times; index++) {
            gaps[index] = 8192 + 37 * index;
        }
        return gaps;
    }

    private static void words(String when, PackedLists x, int width, int... gaps) {
        DUE.is(when + ": width", x.block(0, 0, 3), width);
        BigInteger all = BigInteger.ZERO;
        for (int index = 0; index < gaps.length; index++) {
            all = all.add(BigInteger.valueOf(gaps[index] % (1L << width)).shiftLeft(width * index));
        }
        int words = (width * gaps.length + 31) / 32;
        DUE.is(when + ": number of words", x.block(0, 0, 6), words);
        for (int k = 0; k < words; k++) {
            DUE.is(when + ": word " + k, x.word(0, 0, k), all.shiftRight(32 * k).longValue() & 0xFFFFFFFFL);
        }
        DUE.is(when + ": no word behind", x.word(0, 0, words), BAD);
    }

    // ---- Words

    private static void lowParts() {
        DUE.of("In a block, the low part of a gap is the gap modulo 2^w.");
        int[] gaps = equal(60, 5);
        words("no exceptions", withGaps(gaps), 3, gaps);
        gaps[0] = 8;
        words("the first gap is 2^w: low part 0", withGaps(gaps), 3, gaps);
        gaps[59] = 799999;
        words("the last gap is 7 modulo 2^w", withGaps(gaps), 3, gaps);
        gaps[10] = 7;
        words("the greatest gap that is its own low part", withGaps(gaps), 3, gaps);
    }

    private static void withoutRoomBetween() {
        DUE.of("The low parts follow one another without room between, in the order of the numbers: bit j of the low "
                + "part of number i of the block (i from 1 on) is bit w * (i - 1) + j of the block.");
        words("one gap of one bit", withGaps(1), 1, 1);
        words("one gap of 20 bits", withGaps(999995), 20, 999995);
        words("gaps 1, 0, 3", withGaps(1, 0, 3), 2, 1, 0, 3);
        DUE.is("gaps 1, 0, 3: bits 01 00 11, the lowest first", withGaps(1, 0, 3).word(0, 0, 0), 0b110001);
        words("63 gaps of 14 bits", withGaps(wideGaps(63)), 14, wideGaps(63));
        PackedLists cut = withGaps(wideGaps(63));
        cut.pack(0, 32);
        DUE.is("bits are counted in each block anew: word 0", cut.word(0, 1, 0),
                8192 + 37 * 32 | (8192 + 37 * 33) << 14 | (long) (8192 + 37 * 34 & 15) << 28);
    }

    private static void bitsOfWords() {
        DUE.of("Bit 32 * k + b of the block is bit b of its word k, with k from 0.");
        int[] gaps = equal(33, 0);
        Arrays.fill(gaps, 0, 33, 1);
        gaps[30] = 0;
        words("bits 31 and 32", withGaps(gaps), 1, gaps);
        DUE.is("word 0", withGaps(gaps).word(0, 0, 0), 0xBFFFFFFFL);
        DUE.is("word 1", withGaps(gaps).word(0, 0, 1), 1);
        words("a low part across two words", withGaps(wideGaps(3)), 14, wideGaps(3));
        words("a low part that ends with a word", withGaps(wideGaps(16)), 14, wideGaps(16));
        int[] eight = equal(8, 200);
        words("8 bits, 2 words", withGaps(eight), 8, eight);
        DUE.is("four low parts in a word", withGaps(eight).word(0, 0, 1), 0xC8C8C8C8L);
    }

    private static void highParts() {
        DUE.of("The high part of an exception is the gap divided by 2^w.");
        int[] gaps = equal(30, 4);
        gaps[0] = 8;
        PackedLists x = withGaps(gaps);
        DUE.is("the least exception", x.exception(0, 0, 0, 1), 1);
        gaps[0] = 15;
        DUE.is("still 1", withGaps(gaps).exception(0, 0, 0, 1), 1);
        gaps[0] = 16;
        DUE.is("then 2", withGaps(gaps).exception(0, 0, 0, 1), 2);
        gaps = equal(30, 0);
        gaps[29] = 999999 - 3 - 29 - 1;
        DUE.is("the greatest, with width 0", withGaps(gaps).exception(0, 0, 0, 1), 999966);
    }

    // ---- promise 12

    private static void propertiesOfBlocks() {
        DUE.of("0: the index of its first number; 1: its length; 2: its base; 3: its width; 4: how many exceptions it "
                + "has; 5: its cost; 6: the number of its words, as many as its low parts need, 0 if these have no "
                + "bits");
        PackedLists x = new PackedLists();
        Texts.load(x, 0, "0-63,70,72,999999");
        x.pack(0, 64);
        properties("64 numbers", x, 0, 0, 64, 0, 0, 0, 32, 0);
        properties("gaps 1 and 999926", x, 1, 64, 3, 70, 1, 1, 32 + 2 + 28, 1);
        x.pack(0, 33);
        properties("one number", x, 2, 66, 1, 999999, 0, 0, 32, 0);
        x.pack(0, 1);
        properties("the first of 67 blocks", x, 0, 0, 1, 0, 0, 0, 32, 0);
        properties("the last of 67 blocks", x, 66, 66, 1, 999999, 0, 0, 32, 0);
        DUE.is("block 67", x.block(0, 67, 0), BAD);
        DUE.is("block -1", x.block(0, -1, 0), BAD);
        DUE.is("what -1", x.block(0, 0, -1), BAD);
        DUE.is("what 7", x.block(0, 0, 7), BAD);
        DUE.is("bad lists", x.block(-1, 0, 0) + x.block(6, 0, 0), BAD + BAD);
        x.pack(0, 64);
        DUE.is("a block that there was", x.block(0, 2, 0), BAD);
    }

    private static void properties(String when, PackedLists x, int block, int... properties) {
        for (int what = 0; what < properties.length; what++) {
            DUE.is(when + ": block(0, " + block + ", " + what + ")", x.block(0, block, what), properties[what]);
        }
    }

    private static void numberOfWords() {
        int[][] due = {{1, 1}, {31, 1}, {32, 1}, {33, 2}, {63, 2}};
        for (int[] pair : due) {
            DUE.is(pair[0] + " gaps of 1 bit", withGaps(equal(pair[0], 1)).block(0, 0, 6), pair[1]);
        }
        DUE.is("63 gaps of 0 bits", withGaps(equal(63, 0)).block(0, 0, 6), 0);
        DUE.is("16 gaps of 2 bits", withGaps(equal(16, 2)).block(0, 0, 6), 1);
        DUE.is("17 gaps of 2 bits", withGaps(equal(17, 2)).block(0, 0, 6), 2);
        DUE.is("63 gaps of 14 bits", withGaps(wideGaps(63)).block(0, 0, 6), 28);
    }

    // ---- promises 13 and 14

    private static void bitsBehindTheLast() {
        DUE.of("Returns a word of a block; bits behind the last low part are 0.");
        DUE.is("31 bits", withGaps(equal(31, 1)).word(0, 0, 0), 0x7FFFFFFFL);
        DUE.is("32 bits", withGaps(equal(32, 1)).word(0, 0, 0), 4294967295L);
        DUE.is("the 33rd bit", withGaps(equal(33, 1)).word(0, 0, 1), 1);
        PackedLists cut = withGaps(equal(40, 1));
        cut.pack(0, 32);
        DUE.is("not those of the next block", cut.word(0, 0, 0), 0x7FFFFFFFL);
        DUE.is("those of the next block", cut.word(0, 1, 0), 0xFF);
        cut.remove(0, 3 + 2 * 31);
        DUE.is("a bit fewer behind remove()", cut.word(0, 0, 0), 0x3FFFFFFFL);
    }

    private static void noSuchWord() {
        DUE.of("Returns the word, 0 to 4294967295; BAD, also if there is no such word.");
        PackedLists x = withGaps(equal(33, 1));
        DUE.is("the greatest word", x.word(0, 0, 0), 4294967295L);
        DUE.is("word -1", x.word(0, 0, -1), BAD);
        DUE.is("word 2", x.word(0, 0, 2), BAD);
        DUE.is("word of the least int", x.word(0, 0, Integer.MIN_VALUE), BAD);
        DUE.is("word of the greatest int", x.word(0, 0, Integer.MAX_VALUE), BAD);
        DUE.is("word 2^27, whose bits wrap around", x.word(0, 0, 1 << 27), BAD);
        DUE.is("block -1", x.word(0, -1, 0), BAD);
        DUE.is("block 1", x.word(0, 1, 0), BAD);
        DUE.is("bad lists", x.word(-1, 0, 0) + x.word(6, 0, 0), BAD + BAD);
        DUE.is("an empty list", x.word(1, 0, 0), BAD);
        DUE.is("one number", withGaps().word(0, 0, 0), BAD);
        DUE.is("width 0", withGaps(0, 0).word(0, 0, 0), BAD);
        int[] zeros = equal(40, 1);
        Arrays.fill(zeros, 0, 32, 0);
        PackedLists withZero = withGaps(zeros);
        DUE.is("eight gaps of 1 bit in 40: width 1", withZero.block(0, 0, 3), 1);
        DUE.is("a word that is 0", withZero.word(0, 0, 0), 0);
        DUE.is("the word behind it", withZero.word(0, 0, 1), 255);
    }

    private static void exceptionsInOrder() {
        DUE.of("Returns an exception of a block; they are numbered from 0, in the order of the numbers.");
        int[] gaps = equal(63, 1);
        gaps[0] = 5000;
        gaps[30] = 3;
        gaps[62] = 900000;
        PackedLists x = withGaps(gaps);
        DUE.is("width", x.block(0, 0, 3), 1);
        int[][] due = {{1, 2500}, {31, 1}, {63, 450000}};
        for (int k = 0; k < due.length; k++) {
            DUE.is("index of exception " + k, x.exception(0, 0, k, 0), due[k][0]);
            DUE.is("high part of exception " + k, x.exception(0, 0, k, 1), due[k][1]);
        }
        x.pack(0, 32);
        DUE.is("index in its own block", x.exception(0, 1, 0, 0), 31);
    }

    private static void noSuchException() {
        DUE.of("Returns the index or high part; BAD, also if there is no such exception.");
        int[] gaps = equal(30, 0);
        gaps[3] = 7;
        PackedLists x = withGaps(gaps);
        DUE.is("exception 0", x.exception(0, 0, 0, 0), 4);
        DUE.is("exception -1", x.exception(0, 0, -1, 0), BAD);
        DUE.is("exception 1", x.exception(0, 0, 1, 0), BAD);
        DUE.is("exception 1, high part", x.exception(0, 0, 1, 1), BAD);
        DUE.is("exception of the least int", x.exception(0, 0, Integer.MIN_VALUE, 0), BAD);
        DUE.is("exception of the greatest int", x.exception(0, 0, Integer.MAX_VALUE, 0), BAD);
        DUE.is("what -1", x.exception(0, 0, 0, -1), BAD);
        DUE.is("what 2", x.exception(0, 0, 0, 2), BAD);
        DUE.is("block -1", x.exception(0, -1, 0, 0), BAD);
        DUE.is("block 1", x.exception(0, 1, 0, 0), BAD);
        DUE.is("bad lists", x.exception(-1, 0, 0, 0) + x.exception(6, 0, 0, 0), BAD + BAD);
        DUE.is("an empty list", x.exception(1, 0, 0, 0), BAD);
        DUE.is("one number", withGaps().exception(0, 0, 0, 0), BAD);
        x.remove(0, 3 + 4 + 7);
        DUE.is("the gap of the next number is the exception then", x.exception(0, 0, 0, 1), 8);
        x.pack(0, 4);
        DUE.is("no exception, as the gap is between blocks", x.exception(0, 0, 0, 0), BAD);
        DUE.is("nor in the next block", x.exception(0, 1, 0, 0), BAD);
    }
}
