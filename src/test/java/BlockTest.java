/** Promises 11 to 17: lists, blocks, words, exceptions and costs. */
public final class BlockTest {
    private static final int NONE = PackedLists.NONE, BAD = PackedLists.BAD;
    private static final Due DUE = new Due("BlockTest");

    public static void main(String[] args) {
        promise11List();
        promise12Block();
        promise12TheLeastOfSeveralBestWidths();
        promise13Word();
        promise13WordsOfFullWidth();
        promise14Exception();
        promise15Gaps();
        promise16CostBy();
        promise17Part();
        DUE.finish();
    }

    /** Gaps 1, 1, 1, 1, 2999, 1, 1: width 1 with one exception, and words 1111 1 11 with the low part of 2999. */
    private static PackedLists withException() {
        PackedLists x = new PackedLists();
        Texts.load(x, 2, "0,2,4,6,8,3008,3010,3012");
        x.pack(2, 64);
        return x;
    }

    private static void promise11List() {
        PackedLists x = withException();
        int[] properties = {8, 1, 32 + 7 + 28, 1, 0, 3012};
        for (int what = 0; what < properties.length; what++) {
            DUE.is("list(2, " + what + ")", x.list(2, what), properties[what]);
        }
        DUE.is("list(2, 6)", x.list(2, 6), BAD);
        DUE.is("list(2, -1)", x.list(2, -1), BAD);
        DUE.is("list(-1, 0)", x.list(-1, 0), BAD);
        DUE.is("list(6, 0)", x.list(6, 0), BAD);
        DUE.is("least of an empty list", x.list(0, 4), NONE);
        DUE.is("greatest of an empty list", x.list(0, 5), NONE);
        x.pack(2, 3);
        DUE.is("blocks", x.list(2, 1), 3);
        DUE.is("cost of three blocks", x.list(2, 2), 34 + 56 + 33);
        DUE.is("exceptions of three blocks", x.list(2, 3), 0);
    }

    private static void promise12Block() {
        PackedLists x = withException();
        int[] properties = {0, 8, 0, 1, 1, 67, 1};
        for (int what = 0; what < properties.length; what++) {
            DUE.is("block(2, 0, " + what + ")", x.block(2, 0, what), properties[what]);
        }
        DUE.is("block(2, 0, 7)", x.block(2, 0, 7), BAD);
        DUE.is("block(2, 0, -1)", x.block(2, 0, -1), BAD);
        DUE.is("block(2, 1, 0)", x.block(2, 1, 0), BAD);
        DUE.is("block(2, -1, 0)", x.block(2, -1, 0), BAD);
        DUE.is("block(-1, 0, 0)", x.block(-1, 0, 0), BAD);
        DUE.is("block(6, 0, 0)", x.block(6, 0, 0), BAD);
        DUE.is("block of an empty list", x.block(0, 0, 0), BAD);
        x.pack(2, 3);
        x.remove(2, 3012);
        int[] last = {6, 1, 3010, 0, 0, 32, 0};
        for (int what = 0; what < last.length; what++) {
            DUE.is("block(2, 2, " + what + ") of one number", x.block(2, 2, what), last[what]);
        }
    }

    private static void promise12TheLeastOfSeveralBestWidths() {
        PackedLists x = new PackedLists();
        Texts.load(x, 0, "0-27,29");
        DUE.is("an exception or 28 bits: width", x.block(0, 0, 3), 0);
        DUE.is("an exception or 28 bits: exceptions", x.block(0, 0, 4), 1);
        DUE.is("an exception or 28 bits: cost", x.block(0, 0, 5), 60);
        Texts.load(x, 1, "0-26,28");
        DUE.is("27 bits: width", x.block(1, 0, 3), 1);
        DUE.is("27 bits: cost", x.block(1, 0, 5), 59);
        x.add(2, 0);
        x.add(2, 999999);
        DUE.is("a gap of 20 bits: width", x.block(2, 0, 3), 20);
        DUE.is("a gap of 20 bits: cost", x.block(2, 0, 5), 52);
        x.clear(2);
        x.add(2, 10);
        x.add(2, 11 + 262144);
        DUE.is("a gap of 2^18: width", x.block(2, 0, 3), 19);
        x.remove(2, 11 + 262144);
        x.add(2, 11 + 262143);
        DUE.is("a gap of 2^18 - 1: width", x.block(2, 0, 3), 18);
    }

    private static void promise13Word() {
        PackedLists x = withException();
        DUE.is("word(2, 0, 0)", x.word(2, 0, 0), 0b1111111L);
        DUE.is("word(2, 0, 1)", x.word(2, 0, 1), BAD);
        DUE.is("word(2, 0, -1)", x.word(2, 0, -1), BAD);
        DUE.is("word(2, 1, 0)", x.word(2, 1, 0), BAD);
        DUE.is("word(2, -1, 0)", x.word(2, -1, 0), BAD);
        DUE.is("word(6, 0, 0)", x.word(6, 0, 0), BAD);
        DUE.is("word(-1, 0, 0)", x.word(-1, 0, 0), BAD);
        Texts.load(x, 0, "10-20");
        DUE.is("no bits, no word", x.word(0, 0, 0), BAD);
        DUE.is("no bits, no words", x.block(0, 0, 6), 0);
        Texts.load(x, 1, "5,8,10,14,15");
        x.pack(1, 64);
        DUE.is("width of the gaps 2, 1, 3, 0", x.block(1, 0, 3), 2);
        DUE.is("low parts 2, 1, 3, 0", x.word(1, 0, 0), 0b00110110L);
    }

    private static void promise13WordsOfFullWidth() {
        PackedLists x = new PackedLists();
        int value = 7;
        x.add(0, value);
        for (int index = 0; index < 40; index++) {
            value += 1 + 1023 - index % 2;
            x.add(0, value);
        }
        DUE.is("40 gaps of 10 bits: width", x.block(0, 0, 3), 10);
        DUE.is("400 bits are 13 words", x.block(0, 0, 6), 13);
        String bits = "";
        for (int index = 0; index < 40; index++) {
            bits += index % 2 == 0 ? "1111111111" : "0111111111";
        }
        bits += "0".repeat(16);
        for (int k = 0; k < 13; k++) {
            String word = new StringBuilder(bits.substring(32 * k, 32 * k + 32)).reverse().toString();
            DUE.is("word(0, 0, " + k + ")", x.word(0, 0, k), Long.parseLong(word, 2));
        }
        DUE.is("word(0, 0, 13)", x.word(0, 0, 13), BAD);
        PackedLists y = new PackedLists();
        for (int index = 0; index <= 32; index++) {
            y.add(3, 2 * index);
        }
        DUE.is("32 gaps of 1 bit: one word", y.block(3, 0, 6), 1);
        DUE.is("a word without a sign", y.word(3, 0, 0), 4294967295L);
        y.add(3, 66);
        DUE.is("33 gaps of 1 bit: two words", y.block(3, 0, 6), 2);
        DUE.is("the second word", y.word(3, 0, 1), 1);
    }

    private static void promise14Exception() {
        PackedLists x = withException();
        DUE.is("exception(2, 0, 0, 0)", x.exception(2, 0, 0, 0), 5);
        DUE.is("exception(2, 0, 0, 1)", x.exception(2, 0, 0, 1), 2999 / 2);
        DUE.is("exception(2, 0, 1, 0)", x.exception(2, 0, 1, 0), BAD);
        DUE.is("exception(2, 0, -1, 0)", x.exception(2, 0, -1, 0), BAD);
        DUE.is("exception(2, 0, 0, 2)", x.exception(2, 0, 0, 2), BAD);
        DUE.is("exception(2, 0, 0, -1)", x.exception(2, 0, 0, -1), BAD);
        DUE.is("exception(2, 1, 0, 0)", x.exception(2, 1, 0, 0), BAD);
        DUE.is("exception(2, -1, 0, 0)", x.exception(2, -1, 0, 0), BAD);
        DUE.is("exception(6, 0, 0, 0)", x.exception(6, 0, 0, 0), BAD);
        DUE.is("exception(-1, 0, 0, 0)", x.exception(-1, 0, 0, 0), BAD);
        x.add(2, 500000);
        DUE.is("the second exception's index", x.exception(2, 0, 1, 0), 8);
        DUE.is("the second exception's high part", x.exception(2, 0, 1, 1), (500000 - 3012 - 1) / 2);
        DUE.is("no third exception", x.exception(2, 0, 2, 1), BAD);
        DUE.is("none at all", new PackedLists().exception(0, 0, 0, 0), BAD);
    }

    private static void promise15Gaps() {
        PackedLists x = new PackedLists();
        Texts.load(x, 0, "0-3,5,8,12,16,21,999999");
        x.pack(0, 2);
        int[] counts = {3, 1, 3, 1, 0, 0, 0, 0, 0, 0, 0, 0, 0, 0, 0, 0, 0, 0, 0, 0, 1};
        for (int bits = 0; bits < counts.length; bits++) {
            DUE.is("gaps(0, " + bits + ")", x.gaps(0, bits), counts[bits]);
        }
        DUE.is("gaps(0, -1)", x.gaps(0, -1), BAD);
        DUE.is("gaps(0, 21)", x.gaps(0, 21), BAD);
        DUE.is("gaps(-1, 0)", x.gaps(-1, 0), BAD);
        DUE.is("gaps(6, 0)", x.gaps(6, 0), BAD);
        DUE.is("gaps of an empty list", x.gaps(1, 0), 0);
    }

    private static void promise16CostBy() {
        PackedLists x = withException();
        long before = x.digest();
        DUE.is("costBy(2, 64)", x.costBy(2, 64), 67);
        DUE.is("costBy(2, 1)", x.costBy(2, 1), 256);
        DUE.is("costBy(2, 5)", x.costBy(2, 5), 36 + 34);
        DUE.is("costBy(2, 0)", x.costBy(2, 0), 67);
        DUE.is("costBy(2, -1)", x.costBy(2, -1), BAD);
        DUE.is("costBy(2, 65)", x.costBy(2, 65), BAD);
        DUE.is("costBy(-1, 0)", x.costBy(-1, 0), BAD);
        DUE.is("costBy(6, 0)", x.costBy(6, 0), BAD);
        DUE.is("costBy of an empty list", x.costBy(0, 0), 0);
        DUE.is("costBy(0, 7) of an empty list", x.costBy(0, 7), 0);
        DUE.is("costBy() changes nothing", x.digest(), before);
        for (int length = 0; length <= 64; length++) {
            int told = x.costBy(2, length);
            DUE.is("pack(2, " + length + ") as costBy() told", x.pack(2, length), told);
        }
    }

    private static void promise17Part() {
        PackedLists x = withException();
        long before = x.digest();
        DUE.is("part(2, 0, 7, 0)", x.part(2, 0, 7, 0), 1);
        DUE.is("part(2, 0, 7, 1)", x.part(2, 0, 7, 1), 67);
        DUE.is("part(2, 0, 7, 2)", x.part(2, 0, 7, 2), 1);
        DUE.is("part(2, 3, 6, 0): gaps 1, 2999, 1", x.part(2, 3, 6, 0), 1);
        DUE.is("part(2, 3, 6, 1)", x.part(2, 3, 6, 1), 32 + 3 + 28);
        DUE.is("part(2, 4, 5, 0): the gap 2999", x.part(2, 4, 5, 0), 12);
        DUE.is("part(2, 4, 5, 1)", x.part(2, 4, 5, 1), 44);
        DUE.is("part(2, 4, 5, 2)", x.part(2, 4, 5, 2), 0);
        DUE.is("part(2, 7, 7, 1)", x.part(2, 7, 7, 1), 32);
        DUE.is("part(2, 0, 8, 0)", x.part(2, 0, 8, 0), BAD);
        DUE.is("part(2, 8, 8, 0)", x.part(2, 8, 8, 0), BAD);
        DUE.is("part(2, -1, 3, 0)", x.part(2, -1, 3, 0), BAD);
        DUE.is("part(2, 3, 2, 0)", x.part(2, 3, 2, 0), BAD);
        DUE.is("part(2, 0, 7, 3)", x.part(2, 0, 7, 3), BAD);
        DUE.is("part(2, 0, 7, -1)", x.part(2, 0, 7, -1), BAD);
        DUE.is("part(6, 0, 0, 0)", x.part(6, 0, 0, 0), BAD);
        DUE.is("part(-1, 0, 0, 0)", x.part(-1, 0, 0, 0), BAD);
        DUE.is("part of an empty list", x.part(0, 0, 0, 0), BAD);
        DUE.is("part() far outside", x.part(2, Integer.MAX_VALUE, Integer.MAX_VALUE, 0), BAD);
        DUE.is("part() from far outside", x.part(2, Integer.MIN_VALUE, 3, 0), BAD);
        DUE.is("part() changes nothing", x.digest(), before);
        Texts.load(x, 1, "0-99");
        DUE.is("part of 64 numbers", x.part(1, 30, 93, 1), 32);
        DUE.is("part of 65 numbers", x.part(1, 30, 94, 1), BAD);
    }
}
