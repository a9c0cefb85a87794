/** Promises 21 to 25: expressions, galloping, counts and the digest. */
public final class JoiningTest {
    private static final int NONE = PackedLists.NONE, BAD = PackedLists.BAD, STATE = PackedLists.STATE;
    private static final Due DUE = new Due("JoiningTest");

    public static void main(String[] args) {
        promise21Signs();
        promise21OrderOfSigns();
        promise21Result();
        promise21LargeResults();
        promise22Result();
        promise23Common();
        promise23Galloping();
        promise24Count();
        promise24Probes();
        promise25Digest();
        DUE.finish();
    }

    private static PackedLists withLists() {
        PackedLists x = new PackedLists();
        Texts.load(x, 0, "1-6");
        Texts.load(x, 1, "4-9");
        Texts.load(x, 2, "6,20");
        Texts.load(x, 3, "2,4,8,16");
        return x;
    }

    private static void gives(PackedLists x, String expression, int... numbers) {
        DUE.is("query of " + expression, Texts.query(x, expression), numbers.length);
        for (int index = 0; index < numbers.length; index++) {
            DUE.is(expression + ": result(" + index + ")", x.result(index), numbers[index]);
        }
        DUE.is(expression + ": result(" + numbers.length + ")", x.result(numbers.length), NONE);
        DUE.is(expression + ": count(6)", x.count(6), numbers.length);
    }

    private static void promise21Signs() {
        PackedLists x = withLists();
        gives(x, "A", 1, 2, 3, 4, 5, 6);
        gives(x, "F");
        gives(x, "A|C", 1, 2, 3, 4, 5, 6, 20);
        gives(x, "A-D", 1, 3, 5, 6);
        gives(x, "A^B", 1, 2, 3, 7, 8, 9);
        gives(x, "A&B", 4, 5, 6);
        gives(x, "A-A");
        gives(x, "E|D", 2, 4, 8, 16);
    }

    private static void promise21OrderOfSigns() {
        PackedLists x = withLists();
        gives(x, "C|A&D", 2, 4, 6, 20);
        gives(x, "(C|A)&D", 2, 4);
        gives(x, "A-B|D", 1, 2, 3, 4, 8, 16);
        gives(x, "A-(B|D)", 1, 3);
        gives(x, "A^B^D", 1, 3, 4, 7, 9, 16);
        gives(x, "A-B-D", 1, 3);
        gives(x, "A-(B-D)", 1, 2, 3, 4);
        gives(x, "A&B&C", 6);
        gives(x, "A^B&D", 1, 2, 3, 5, 6, 8);
        gives(x, "((A|B)-(C&A))^(D)", 1, 3, 5, 7, 9, 16);
    }

    private static void promise21Result() {
        PackedLists x = withLists();
        Texts.query(x, "A&C");
        DUE.is("the text stays", x.count(9), 3);
        x.erase();
        DUE.is("a fault", x.query(), -2000);
        DUE.is("a fault leaves the result", x.result(0), 6);
        DUE.is("a fault leaves the probes", x.count(7), probesOf(x, 0, 2));
        x.clear(0);
        DUE.is("a change leaves the result", x.count(6), 1);
        gives(x, "A&C");
        DUE.is("no state was recorded by query()", x.count(8), 5);
    }

    private static int probesOf(PackedLists x, int first, int second) {
        return x.common(first, second, 1);
    }

    private static void promise21LargeResults() {
        PackedLists x = new PackedLists();
        for (int list = 0; list < 6; list++) {
            Texts.load(x, list, 1000 * list + "-" + (1000 * list + 199));
        }
        DUE.is("all lists", Texts.query(x, "F|E|D|C|B|A"), 1200);
        for (int index = 0; index < 1200; index += 11) {
            DUE.is("result(" + index + ")", x.result(index), index / 200 * 1000 + index % 200);
        }
        DUE.is("result(1200)", x.result(1200), NONE);
        DUE.is("deep and wide", Texts.query(x,
                "A|B&(B|C&(C|D&(D|E&(E|F&(F|A&(A|B&(B|C&(C)))))))) "), 400);
        String all = "A|B|C|D|E|F";
        String nested = all + ("|(" + all).repeat(6) + ")".repeat(6);
        DUE.is("a text of 100 bytes", Texts.query(x, nested + " ".repeat(100 - nested.length())), 1200);
        DUE.is("its length", x.count(9), 100);
    }

    private static void promise22Result() {
        PackedLists x = withLists();
        DUE.is("result(0) without a result", x.result(0), STATE);
        DUE.is("result(-1) without a result", x.result(-1), BAD);
        Texts.query(x, "C");
        DUE.is("result(0)", x.result(0), 6);
        DUE.is("result(1)", x.result(1), 20);
        DUE.is("result(2)", x.result(2), NONE);
        DUE.is("result(-1)", x.result(-1), BAD);
        DUE.is("result(greatest int)", x.result(Integer.MAX_VALUE), NONE);
        Texts.query(x, "E");
        DUE.is("result(0) of an empty result", x.result(0), NONE);
    }

    private static void promise23Common() {
        PackedLists x = withLists();
        long before = x.digest();
        DUE.is("common(0, 1, 0)", x.common(0, 1, 0), 3);
        DUE.is("common(1, 0, 0)", x.common(1, 0, 0), 3);
        DUE.is("common(0, 0, 0)", x.common(0, 0, 0), 6);
        DUE.is("common(0, 0, 1)", x.common(0, 0, 1), 0);
        DUE.is("common(0, 4, 0)", x.common(0, 4, 0), 0);
        DUE.is("common(0, 4, 1)", x.common(0, 4, 1), 0);
        DUE.is("common(-1, 0, 0)", x.common(-1, 0, 0), BAD);
        DUE.is("common(0, -1, 0)", x.common(0, -1, 0), BAD);
        DUE.is("common(6, 0, 0)", x.common(6, 0, 0), BAD);
        DUE.is("common(0, 6, 0)", x.common(0, 6, 0), BAD);
        DUE.is("common(0, 1, 2)", x.common(0, 1, 2), BAD);
        DUE.is("common(0, 1, -1)", x.common(0, 1, -1), BAD);
        DUE.is("common() changes nothing", x.digest(), before);
    }

    /** The probed indices, written out from the document. */
    private static void promise23Galloping() {
        PackedLists x = new PackedLists();
        Texts.load(x, 0, "0-9");
        Texts.load(x, 1, "9");
        DUE.is("0, 1, 2, 4, 8, then 16 is outside, 9", x.common(0, 1, 1), 6);
        DUE.is("the same in the second row", x.common(1, 0, 1), 6);
        Texts.load(x, 2, "4");
        DUE.is("0, 1, 2, 4, then 3", x.common(0, 2, 1), 5);
        Texts.load(x, 3, "1");
        DUE.is("0, 1", x.common(0, 3, 1), 2);
        Texts.load(x, 4, "50");
        DUE.is("0, 1, 2, 4, 8, then 9", x.common(0, 4, 1), 6);
        DUE.is("none in common", x.common(0, 4, 0), 0);
        Texts.load(x, 5, "3,8");
        DUE.is("0, 1, 2, 4, then 3; 4, 5, 6, 8, then 7", x.common(0, 5, 1), 10);
    }

    private static void promise24Count() {
        PackedLists x = withLists();
        x.pack(0, 2);
        x.at(0, 0);
        x.at(0, 1);
        x.at(1, 0);
        Texts.query(x, "A&B");
        int cost = x.list(0, 2) + x.list(1, 2) + x.list(2, 2) + x.list(3, 2);
        int blocks = 3 + x.list(1, 1) + x.list(2, 1) + x.list(3, 1);
        int[] counts = {18, blocks, cost, 2, 1, 2, 3, x.common(0, 1, 1), 5, 3};
        for (int what = 0; what < counts.length; what++) {
            DUE.is("count(" + what + ")", x.count(what), counts[what]);
        }
        DUE.is("count(-1)", x.count(-1), BAD);
        DUE.is("count(10)", x.count(10), BAD);
        PackedLists y = new PackedLists();
        DUE.is("count(6) without a result", y.count(6), NONE);
        DUE.is("count(7) without a result", y.count(7), NONE);
    }

    private static void promise24Probes() {
        PackedLists x = withLists();
        Texts.query(x, "A|B-C^D");
        DUE.is("other signs probe none", x.count(7), 0);
        Texts.query(x, "A&B");
        int left = x.count(7);
        DUE.is("as common() tells", left, x.common(0, 1, 1));
        Texts.query(x, "A&B|C&D");
        DUE.is("all signs together", x.count(7), left + x.common(2, 3, 1));
        Texts.query(x, "A&B");
        x.store(4);
        Texts.query(x, "A&B&D");
        DUE.is("from left to right", x.count(7), left + x.common(4, 3, 1));
        Texts.query(x, "A&B");
        x.add(0, 100);
        DUE.is("of the query that gave the result", x.count(7), left);
        Texts.query(x, "A&");
        DUE.is("not of one with a fault", x.count(7), left);
    }

    private static void promise25Digest() {
        PackedLists x = withTextAndResult();
        DUE.is("digest() as it is told", x.digest(), toldDigest(x, 3));
        DUE.is("digest() looks at nothing", x.count(4) + x.count(5), 1);
        PackedLists y = withTextAndResult();
        y.digest();
        DUE.is("digest() again", y.digest(), toldDigest(y, 3));
        PackedLists z = withTextAndResult();
        z.clear(3);
        DUE.is("digest() after a change", z.digest(), toldDigest(z, 3));
    }

    private static PackedLists withTextAndResult() {
        PackedLists x = withLists();
        x.pack(0, 4);
        x.add(3, 700000);
        x.at(0, 0);
        Texts.query(x, "A|D");
        return Texts.type(x, "xy ");
    }

    /** By way of the public calls; the text is "xy ". The numbers come from find(), so the cache is looked at last. */
    private static long toldDigest(PackedLists x, int length) {
        long hash = 619;
        for (int what = 0; what < 10; what++) {
            hash = 31 * hash + x.count(what);
        }
        for (int list = 0; list < 6; list++) {
            for (int what = 0; what < 6; what++) {
                hash = 31 * hash + x.list(list, what);
            }
            for (int block = 0; block < x.list(list, 1); block++) {
                hash = toldBlock(hash, x, list, block);
            }
        }
        for (int list = 0; list < 6; list++) {
            hash = toldNumbers(hash, x, list);
        }
        for (int index = 0; index < x.count(6); index++) {
            hash = 31 * hash + x.result(index);
        }
        for (int index = 0; index < length; index++) {
            hash = 31 * hash + "xy ".charAt(index);
        }
        return hash;
    }

    private static long toldBlock(long before, PackedLists x, int list, int block) {
        long hash = before;
        for (int what = 0; what < 7; what++) {
            hash = 31 * hash + x.block(list, block, what);
        }
        for (int k = 0; k < x.block(list, block, 6); k++) {
            hash = 31 * hash + x.word(list, block, k);
        }
        for (int k = 0; k < x.block(list, block, 4); k++) {
            hash = 31 * hash + x.exception(list, block, k, 0);
            hash = 31 * hash + x.exception(list, block, k, 1);
        }
        return 31 * hash + x.cached(list, block);
    }

    /** Decodes the blocks, as at() would change hits and misses. */
    private static long toldNumbers(long before, PackedLists x, int list) {
        long hash = before;
        for (int block = 0; block < x.list(list, 1); block++) {
            int number = x.block(list, block, 2);
            int width = x.block(list, block, 3);
            int exception = 0;
            hash = 31 * hash + number;
            for (int index = 1; index < x.block(list, block, 1); index++) {
                int gap = 0;
                for (int bit = 0; bit < width; bit++) {
                    int place = width * (index - 1) + bit;
                    gap |= (int) (x.word(list, block, place / 32) >> place % 32 & 1) << bit;
                }
                if (x.exception(list, block, exception, 0) == index) {
                    gap += x.exception(list, block, exception, 1) << width;
                    exception++;
                }
                number += gap + 1;
                hash = 31 * hash + number;
            }
        }
        return hash;
    }
}
