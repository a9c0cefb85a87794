import java.math.BigInteger;

/** The description of galloping, and promises 21 to 25: probes, results, counts and the digest. */
public final class JoinBoundsTest {
    private static final int NONE = PackedLists.NONE, BAD = PackedLists.BAD, STATE = PackedLists.STATE;
    private static final Sentences DUE = new Sentences("JoinBoundsTest");

    public static void main(String[] args) {
        stepsThatAreDoubled();
        rowsThatEndBeforeTheNumber();
        numbersFoundInARow();
        gallopsFromTheMiddle();
        intersections();
        queryGivesTheResult();
        ampersandsIntersect();
        queryLeavesTheText();
        queryAnswers();
        resultAnswers();
        commonAnswers();
        countsAtTheirEnds();
        countsOfAQuery();
        digestInLongArithmetic();
        digestOfExceptions();
        digestOfResults();
        digestLeavesTheCache();
        DUE.finish();
    }

    private static PackedLists withLists(String... texts) {
        PackedLists x = new PackedLists();
        for (int list = 0; list < texts.length; list++) {
            Texts.load(x, list, texts[list]);
        }
        return x;
    }

    /** In both orders, by common() and by "&". */
    private static void probes(String first, String second, int taken, int probes) {
        String rows = first + " and " + second;
        PackedLists x = withLists(first, second);
        DUE.is(rows + ": taken", x.common(0, 1, 0), taken);
        DUE.is(rows + ": probes", x.common(0, 1, 1), probes);
        DUE.is(rows + ", turned around: taken", x.common(1, 0, 0), taken);
        DUE.is(rows + ", turned around: probes", x.common(1, 0, 1), probes);
        DUE.is(rows + ", by &: taken", Texts.query(x, "A&B"), taken);
        DUE.is(rows + ", by &: probes", x.count(7), probes);
    }

    // ---- Galloping

    /** Rows that end within, with or behind a doubled step. */
    private static void stepsThatAreDoubled() {
        DUE.of("While p + s < n: index p + s is probed; if its number is at least t, high = p + s, and this part "
                + "ends; otherwise low becomes p + s, and s is doubled.");
        probes("0-1", "1", 1, 2);
        probes("0-2", "2", 1, 3);
        probes("0-3", "3", 1, 4);
        probes("0-4", "4", 1, 5);
        probes("0-4", "3", 1, 5);
        probes("0-7", "7", 1, 6);
        probes("0-8", "8", 1, 7);
        probes("0-8", "7", 1, 7);
        probes("0-128", "128", 1, 9 + 6);
        probes("0-127", "127", 1, 8 + 6);
    }

    private static void rowsThatEndBeforeTheNumber() {
        DUE.of("If it did not end so, high = n.");
        int[][] due = {
            {1, 1}, {2, 2}, {3, 3}, {4, 4}, {5, 4}, {6, 5}, {7, 6}, {8, 6}, {9, 5}, {10, 6}, {11, 7}, {12, 7},
            {16, 8}, {17, 6}, {64, 12}, {65, 8}, {128, 14}, {129, 9}, {200, 16},
        };
        for (int[] pair : due) {
            probes("0-" + (pair[0] - 1), "999999", 0, pair[1]);
        }
    }

    private static void numbersFoundInARow() {
        DUE.of("Then, while low + 1 < high, index (low + high) / 2 is probed; if its number is at least t, high "
                + "becomes this index, otherwise low does.");
        int[] due = {0, 2, 3, 5, 5, 7, 7, 7, 7, 8, 8, 8, 8, 8, 8, 8};
        for (int number = 0; number < due.length; number++) {
            probes("0-15", String.valueOf(number), 1, due[number]);
        }
        probes("0-199", "199", 1, 16);
        probes("10,20,30,40,50", "41", 0, 5 + 1);
        probes("10,20,30,40,50", "35", 0, 5 + 1);
    }

    private static void gallopsFromTheMiddle() {
        DUE.of("In a row of ascending numbers with the indices 0 to n - 1, to gallop from index p to a number t "
                + "means: index p is probed; if its number is at least t, the result is p.");
        probes("0-15", "0,5", 2, 5);
        probes("0-9", "8,20", 1, 7 + 1);
        probes("0-9", "9,20", 1, 6);
        probes("5", "6", 0, 1);
        probes("0,1", "2", 0, 2);
        probes("0,2,4,6", "1,3,5,7", 0, 13);
        probes("0-3,100-103", "50,101", 1, 5 + 2 + 2);
    }

    private static void intersections() {
        DUE.of("To intersect two rows, two indices i and j begin with 0, and as long as both are in their rows: if "
                + "both numbers are equal, the number is taken, and both indices increase by 1 (this comparing "
                + "probes no index); if that of the first row is less, i becomes the result of galloping in the "
                + "first row from i to the other number; otherwise j likewise in the second row.");
        probes("", "", 0, 0);
        probes("0-199", "", 0, 0);
        probes("0-199", "0-199", 200, 0);
        probes("0-199", "0-99", 100, 0);
        probes("0", "0", 1, 0);
        probes("999999", "999999", 1, 0);
        probes("1,2,3", "1,2,4", 2, 1);
        probes("0-99", "100-199", 0, 8 + 6);
    }

    // ---- promise 21

    private static void queryGivesTheResult() {
        DUE.of("Reads the text as an expression, and carries it out; what comes out is the result, which is kept "
                + "until the next query() that returns no fault.");
        PackedLists x = withLists("1,2,3", "3,4");
        Texts.query(x, "A-B");
        DUE.result("at first", x, 1, 2);
        Texts.query(x, "A-");
        DUE.result("behind a text that ends too early", x, 1, 2);
        Texts.query(x, "");
        DUE.result("behind an empty text", x, 1, 2);
        Texts.query(x, "((((((((((A");
        DUE.result("behind a ninth level", x, 1, 2);
        x.clear(0);
        x.clear(1);
        DUE.result("behind changes", x, 1, 2);
        x.undo();
        DUE.result("behind undo()", x, 1, 2);
        DUE.is("a query() without a fault", Texts.query(x, "A"), 0);
        DUE.result("an empty one", x);
        Texts.query(x, "B");
        DUE.result("the next one", x, 3, 4);
    }

    private static void ampersandsIntersect() {
        DUE.of("Each \"&\" intersects two rows, the left side being the first one.");
        PackedLists x = withLists("0-15", "5,9", "9,12", "0-99");
        int left = 7 + 5;
        DUE.is("A&B", Texts.query(x, "A&B"), 2);
        DUE.is("A&B: 0, 1, 2, 4, 8, then 6 and 5; 6, 7, 8, 10, then 9", x.count(7), left);
        DUE.is("A&B&C", Texts.query(x, "A&B&C"), 1);
        DUE.is("A&B&C: and 5, 9 of 5, 9", x.count(7), left + 2);
        DUE.is("A&(B&C)", Texts.query(x, "A&(B&C)"), 1);
        DUE.is("A&(B&C): 2, and 8 to 9 in A", x.count(7), 2 + 8);
        DUE.is("(A-A)&D", Texts.query(x, "(A-A)&D"), 0);
        DUE.is("an empty side probes none", x.count(7), 0);
        DUE.is("(A|D)&D", Texts.query(x, "(A|D)&D"), 100);
        DUE.is("equal sides probe none", x.count(7), 0);
        DUE.is("A&B|A&B", Texts.query(x, "A&B|A&B"), 2);
        DUE.is("the same intersection again", x.count(7), 2 * left);
    }

    private static void queryLeavesTheText() {
        DUE.of("The text stays.");
        PackedLists x = withLists("7");
        Texts.type(x, "A");
        DUE.is("query()", x.query(), 1);
        DUE.is("its length", x.count(9), 1);
        DUE.is("query() again", x.query(), 1);
        x.type('-');
        DUE.is("with a fault", x.query(), -2002);
        DUE.is("its length then", x.count(9), 2);
        x.type('A');
        DUE.is("without it", x.query(), 0);
        DUE.is("states", x.count(8), 1);
    }

    private static void queryAnswers() {
        DUE.of("Returns the number of numbers of the result; -2000 - p if the text has the fault p as an expression.");
        PackedLists x = new PackedLists();
        for (int list = 0; list < 6; list++) {
            Texts.load(x, list, 1000 * list + "-" + (1000 * list + 199));
        }
        DUE.is("no numbers", Texts.query(x, "A&B"), 0);
        DUE.is("200 numbers", Texts.query(x, "F"), 200);
        DUE.is("1200 numbers", Texts.query(x, "A|B|C|D|E|F"), 1200);
        DUE.is("the last of them", x.result(1199), 5199);
        DUE.is("behind the last of them", x.result(1200), NONE);
        DUE.is("1200 numbers and 200", Texts.query(x, "(A|B|C|D|E|F)&F"), 200);
        DUE.is("0, 1, 2, 4, .. 1024, and nine between 512 and 1024", x.count(7), 12 + 9);
        DUE.is("200 numbers and 1200", Texts.query(x, "F&(A|B|C|D|E|F)"), 200);
        DUE.is("the same in the second row", x.count(7), 12 + 9);
        DUE.is("1200 numbers and 1200 numbers", Texts.query(x, "(A|B|C|D|E|F)&(F|E|D|C|B|A)"), 1200);
        DUE.is("fault 0", Texts.query(x, ")"), -2000);
        DUE.is("fault 99", Texts.query(x, "A" + " ".repeat(98) + "A"), -2099);
        DUE.is("fault 100", Texts.query(x, "A&" + " ".repeat(98)), -2100);
    }

    // ---- promises 22 and 23

    private static void resultAnswers() {
        DUE.of("Returns the number; BAD if index is negative; STATE if there is no result; NONE if there are not so "
                + "many.");
        PackedLists x = withLists("0,999999");
        DUE.is("result(-1) of none", x.result(-1), BAD);
        DUE.is("result(0) of none", x.result(0), STATE);
        DUE.is("result of the greatest int, of none", x.result(Integer.MAX_VALUE), STATE);
        Texts.query(x, "B");
        DUE.is("result(0) of an empty one", x.result(0), NONE);
        DUE.is("result(-1) of an empty one", x.result(-1), BAD);
        Texts.query(x, "A");
        DUE.is("result(0)", x.result(0), 0);
        DUE.is("result(1)", x.result(1), 999999);
        DUE.is("result(2)", x.result(2), NONE);
        DUE.is("result of the greatest int", x.result(Integer.MAX_VALUE), NONE);
        DUE.is("result of the least int", x.result(Integer.MIN_VALUE), BAD);
        Texts.query(x, "B");
        DUE.is("no number of the one before", x.result(0), NONE);
    }

    private static void commonAnswers() {
        DUE.of("Counts the numbers that two lists have in common, by intersecting them.");
        PackedLists x = withLists("0-199", "199,999999", "0-199");
        Texts.query(x, "A&B");
        long before = x.digest();
        DUE.is("the same list", x.common(0, 0, 0), 200);
        DUE.is("the same list: probes", x.common(0, 0, 1), 0);
        DUE.is("an empty list and itself", x.common(5, 5, 0), 0);
        DUE.is("equal lists", x.common(0, 2, 0), 200);
        DUE.is("the last number", x.common(0, 1, 0), 1);
        DUE.is("the last number: probes", x.common(0, 1, 1), 16);
        DUE.is("again: probes are counted anew", x.common(0, 1, 1), 16);
        DUE.is("bad first lists", x.common(-1, 0, 0) + x.common(6, 0, 0), BAD + BAD);
        DUE.is("bad second lists", x.common(0, -1, 0) + x.common(0, 6, 0), BAD + BAD);
        DUE.is("what -1 and 2", x.common(0, 0, -1) + x.common(0, 0, 2), BAD + BAD);
        DUE.is("nothing changes, nor the probes of the result", x.digest(), before);
    }

    // ---- promise 24

    private static void countsAtTheirEnds() {
        DUE.of("0: how many numbers all lists together have; 1: blocks of all lists together; 2: the cost of all "
                + "lists together; 3: blocks in the cache; 4: hits; 5: misses; 6: numbers of the result (NONE if "
                + "there is none); 7: how many indices were probed by all \"&\" of the query() that gave the result "
                + "(the other signs probe none; NONE if there is none); 8: states in the history; 9: bytes of the "
                + "text");
        PackedLists x = new PackedLists();
        counts("at first", x, 0, 0, 0, 0, 0, 0, NONE, NONE, 0, 0);
        for (int list = 0; list < 6; list++) {
            Texts.load(x, list, 1000 * list + "-" + (1000 * list + 199));
            x.pack(list, 1);
            x.at(list, 199);
        }
        x.at(5, 199);
        Texts.query(x, "A|B|C|D|E|F");
        Texts.type(x, "9".repeat(100));
        counts("full", x, 1200, 1200, 38400, 4, 1, 6, 1200, 0, 8, 100);
        DUE.is("count(-1)", x.count(-1), BAD);
        DUE.is("count(10)", x.count(10), BAD);
        x.clear(5);
        x.erase();
        counts("less", x, 1000, 1000, 32000, 3, 1, 6, 1200, 0, 8, 0);
        x.undo();
        counts("behind undo()", x, 1200, 1200, 38400, 0, 1, 6, 1200, 0, 7, 0);
    }

    private static void counts(String when, PackedLists x, int... counts) {
        for (int what = 0; what < counts.length; what++) {
            DUE.is(when + ": count(" + what + ")", x.count(what), counts[what]);
        }
    }

    private static void countsOfAQuery() {
        PackedLists x = withLists("1-8", "8");
        Texts.query(x, "A|B&");
        DUE.is("probes behind a fault alone", x.count(7), NONE);
        DUE.is("numbers behind a fault alone", x.count(6), NONE);
        Texts.query(x, "A|B-C^D");
        DUE.is("other signs probe none", x.count(7), 0);
        Texts.query(x, "C");
        DUE.is("numbers of an empty result", x.count(6), 0);
        DUE.is("probes of an empty result", x.count(7), 0);
        Texts.query(x, "A&B");
        DUE.is("probes of &", x.count(7), 6);
        Texts.query(x, "A&B&");
        DUE.is("a fault leaves them", x.count(7), 6);
        x.common(1, 0, 1);
        x.common(2, 0, 1);
        x.clear(0);
        DUE.is("common() and changes leave them", x.count(7), 6);
    }

    // ---- promise 25

    /** With numbers of any size, of which a long keeps the lowest 64 bits. */
    private static long hashOf(long... numbers) {
        BigInteger hash = BigInteger.valueOf(619);
        for (long number : numbers) {
            hash = hash.multiply(BigInteger.valueOf(31)).add(BigInteger.valueOf(number));
        }
        return hash.longValue();
    }

    private static void digestInLongArithmetic() {
        DUE.of("It is 619 at first; for each of the following numbers, in this order, it becomes 31 times itself plus "
                + "the number (long arithmetic with overflow): count(0) to count(9); for each list list(l, 0) to "
                + "list(l, 5), and for each of its blocks block(l, b, 0) to block(l, b, 6), its words, its "
                + "exceptions (each of them exception(l, b, k, 0) and exception(l, b, k, 1)), and cached(l, b); for "
                + "each list its numbers; the numbers of the result, if there is one; the bytes of the text.");
        DUE.is("a new object", new PackedLists().digest(), hashOf(
                0, 0, 0, 0, 0, 0, -1, -1, 0, 0,
                0, 0, 0, 0, -1, -1, 0, 0, 0, 0, -1, -1, 0, 0, 0, 0, -1, -1,
                0, 0, 0, 0, -1, -1, 0, 0, 0, 0, -1, -1, 0, 0, 0, 0, -1, -1));
        PackedLists x = withLists("0,2,4,6,8,3008,999999");
        x.pack(0, 6);
        x.add(5, 7);
        x.at(0, 6);
        x.at(0, 6);
        Texts.query(x, "F");
        Texts.type(x, "\u0000z\u007f");
        int cost = 32 + 5 + 28 + 32 + 32;
        DUE.is("an object with words, exceptions, result and text", x.digest(), hashOf(
                8, 3, cost, 1, 1, 1, 1, 0, 3, 3,
                7, 2, cost - 32, 1, 0, 999999,
                0, 6, 0, 1, 1, 65, 1, 0b11111, 5, 1499, 0,
                6, 1, 999999, 0, 0, 32, 0, 1,
                0, 0, 0, 0, -1, -1, 0, 0, 0, 0, -1, -1, 0, 0, 0, 0, -1, -1, 0, 0, 0, 0, -1, -1,
                1, 1, 32, 0, 7, 7,
                0, 1, 7, 0, 0, 32, 0, 0,
                0, 2, 4, 6, 8, 3008, 999999, 7,
                7,
                0, 'z', 127));
    }

    /** The first gap of the block is the exception, and its high part the least one. */
    private static void digestOfExceptions() {
        PackedLists x = withLists("0,2-31");
        long[] numbers = new long[10 + 6 + 7 + 3 + 5 * 6 + 31];
        long[] ahead = {31, 1, 60, 0, 0, 0, -1, -1, 1, 0, 31, 1, 60, 1, 0, 31, 0, 31, 0, 0, 1, 60, 0, 1, 1, 0};
        System.arraycopy(ahead, 0, numbers, 0, ahead.length);
        for (int list = 1; list < 6; list++) {
            numbers[ahead.length + 6 * list - 2] = NONE;
            numbers[ahead.length + 6 * list - 1] = NONE;
        }
        for (int number = 2; number <= 31; number++) {
            numbers[numbers.length - 32 + number] = number;
        }
        DUE.is("an exception of the first gap", x.digest(), hashOf(numbers));
    }

    private static void digestOfResults() {
        PackedLists x = new PackedLists();
        long none = x.digest();
        Texts.query(x, "A");
        x.erase();
        DUE.is("an empty result", x.digest(), hashOf(
                0, 0, 0, 0, 0, 0, 0, 0, 0, 0,
                0, 0, 0, 0, -1, -1, 0, 0, 0, 0, -1, -1, 0, 0, 0, 0, -1, -1,
                0, 0, 0, 0, -1, -1, 0, 0, 0, 0, -1, -1, 0, 0, 0, 0, -1, -1));
        DUE.holds("is another than none", x.digest() != none);
        x.type(0);
        long one = x.digest();
        x.type(0);
        DUE.holds("a text of bytes 0", x.digest() != one);
    }

    private static void digestLeavesTheCache() {
        DUE.of("The cache, the hits and misses stay as they are.");
        PackedLists x = withLists("10,20,30,40,50");
        x.pack(0, 1);
        x.digest();
        DUE.is("nothing comes into the cache", x.count(3), 0);
        for (int index = 0; index < 4; index++) {
            x.at(0, index);
        }
        long before = x.digest();
        DUE.is("digest() again", x.digest(), before);
        DUE.is("hits", x.count(4), 0);
        DUE.is("misses", x.count(5), 4);
        x.at(0, 4);
        DUE.is("the order of looks has stayed", x.cached(0, 0), 0);
        DUE.is("one left alone", x.count(3), 4);
    }
}
