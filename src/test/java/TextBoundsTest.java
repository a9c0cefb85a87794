/** The description of texts, and promises 9 and 10: what can stand where, and which fault counts. */
public final class TextBoundsTest {
    private static final int BAD = PackedLists.BAD, FULL = PackedLists.FULL;
    private static final String EIGHT = "((((((((";
    private static final Sentences DUE = new Sentences("TextBoundsTest");

    public static void main(String[] args) {
        atMost100Bytes();
        repetitions();
        numbersOfDigits();
        parts();
        letters();
        signs();
        depth();
        blanks();
        bytesThatCannotStandInNumbers();
        bytesThatCannotStandInExpressions();
        numbersThatAreNotGreater();
        tooManyNumbers();
        theNinthLevel();
        textsThatEndTooEarly();
        theLeastFault();
        faultsLeaveNoRest();
        typeAppends();
        eraseEmpties();
        DUE.finish();
    }

    private static int load(String text) {
        return Texts.load(new PackedLists(), 0, text);
    }

    /** Lists: A has 1 to 6, B 4 to 9, C 6 and 20, D 2, 4, 8, E none, F 999999. */
    private static PackedLists withLists() {
        PackedLists x = new PackedLists();
        Texts.load(x, 0, "1-6");
        Texts.load(x, 1, "4-9");
        Texts.load(x, 2, "6,20");
        Texts.load(x, 3, "2,4,8");
        Texts.load(x, 5, "999999");
        return x;
    }

    private static void asNumbers(String text, int answer) {
        DUE.is("load() of '" + text + "'", load(text), answer);
    }

    private static void asExpression(String text, int answer) {
        DUE.is("query() of '" + text + "'", Texts.query(withLists(), text), answer);
    }

    private static void gives(String text, int... numbers) {
        PackedLists x = withLists();
        DUE.is("query() of " + text, Texts.query(x, text), numbers.length);
        DUE.result(text, x, numbers);
    }

    // ---- Texts

    private static void atMost100Bytes() {
        DUE.of("There is a text of at most 100 bytes, for two purposes:");
        PackedLists x = new PackedLists();
        for (int length = 1; length <= 100; length++) {
            DUE.is("byte " + length, x.type(' '), length);
        }
        DUE.is("byte 101", x.type(' '), FULL);
        DUE.is("its length", x.count(9), 100);
        DUE.is("as numbers", x.load(0), 0);
        Texts.type(x, "A|".repeat(49) + "A");
        DUE.is("byte 100", x.type(' '), 100);
        DUE.is("byte 101", x.type('|'), FULL);
        DUE.is("as an expression", x.query(), 0);
        DUE.is("one text for both: as numbers", x.load(0), -2000);
    }

    private static void repetitions() {
        DUE.of("Braces mean repetition, zero times or more, and brackets at most once.");
        asNumbers("", 0);
        asNumbers("1", 1);
        asNumbers("1,2", 2);
        asNumbers("0,1,2,3,4,5,6,7,8,9,10,11,12,13,14,15,16,17,18,19,20,21,22,23,24,25,26,27,28,29,30", 31);
        asNumbers("1-2", 2);
        asNumbers("1-2-3", -2003);
        asNumbers("1-2,4-5,7-8,9", 7);
        asExpression("A", 6);
        asExpression("A|B|C|D|E|F", 11);
        asExpression("A&A&A&A&A", 6);
        asExpression("A&B|C&D-E&F^A", 3);
        asExpression("A|", -2002);
    }

    private static void numbersOfDigits() {
        DUE.of("A number is the longest possible sequence of at most 6 digits, with zeros ahead or without; a seventh "
                + "digit cannot stand.");
        asNumbers("0", 1);
        asNumbers("000000", 1);
        asNumbers("000001", 1);
        asNumbers("999999", 1);
        asNumbers("0000000", -2006);
        asNumbers("0000001", -2006);
        asNumbers("9999999", -2006);
        asNumbers("1000000", -2006);
        asNumbers("  1000000", -2008);
        asNumbers("1,1000000", -2008);
        asNumbers("999990-9999999", -2013);
        asNumbers("12345678", -2006);
        asNumbers("123 456", -2004);
        PackedLists x = new PackedLists();
        Texts.load(x, 0, "007,0010,000123,045678");
        DUE.numbers("zeros ahead", x, 0, 7, 10, 123, 45678);
        Texts.load(x, 0, "0,1,12,123,1234,12345,123456");
        DUE.numbers("one to six digits", x, 0, 0, 1, 12, 123, 1234, 12345, 123456);
    }

    private static void parts() {
        DUE.of("A part is one number, or all numbers from the first to the second one.");
        PackedLists x = new PackedLists();
        Texts.load(x, 0, "3-6");
        DUE.numbers("3-6", x, 0, 3, 4, 5, 6);
        Texts.load(x, 0, "0-0,1,2-2,999998-999999");
        DUE.numbers("parts of one number", x, 0, 0, 1, 2, 999998, 999999);
        asNumbers("0-199", 200);
        asNumbers("999800-999999", 200);
    }

    private static void letters() {
        DUE.of("A list is a capital letter from A to F, for the lists 0 to 5.");
        gives("A", 1, 2, 3, 4, 5, 6);
        gives("B", 4, 5, 6, 7, 8, 9);
        gives("C", 6, 20);
        gives("D", 2, 4, 8);
        gives("E");
        gives("F", 999999);
        for (String other : new String[] {"@", "G", "a", "f", "0"}) {
            asExpression(other, -2000);
            asExpression("A&" + other, -2002);
        }
    }

    private static void signs() {
        DUE.of("\"|\" means the numbers that are in one of both sides or in both, \"-\" those of the left side that "
                + "are not in the right one, \"^\" those that are in just one side, and \"&\" those that are in "
                + "both; operators of a row are carried out from left to right.");
        gives("A|D", 1, 2, 3, 4, 5, 6, 8);
        gives("A-D", 1, 3, 5, 6);
        gives("A^D", 1, 3, 5, 6, 8);
        gives("A&D", 2, 4);
        gives("A|E", 1, 2, 3, 4, 5, 6);
        gives("E|E");
        gives("E-A");
        gives("A-E", 1, 2, 3, 4, 5, 6);
        gives("E^D", 2, 4, 8);
        gives("E&A");
        gives("A|A", 1, 2, 3, 4, 5, 6);
        gives("A-A");
        gives("A^A");
        gives("A&A", 1, 2, 3, 4, 5, 6);
        gives("A-D-C", 1, 3, 5);
        gives("A-D|D", 1, 2, 3, 4, 5, 6, 8);
        gives("A-(D|D)", 1, 3, 5, 6);
        gives("D|A-D", 1, 3, 5, 6);
        gives("D|(A-D)", 1, 2, 3, 4, 5, 6, 8);
        gives("D^A-A", 8);
        gives("D^(A-A)", 2, 4, 8);
        gives("D-A^A", 1, 2, 3, 4, 5, 6, 8);
        gives("A|D&C", 1, 2, 3, 4, 5, 6);
        gives("(A|D)&C", 6);
        gives("D&A|C", 2, 4, 6, 20);
        gives("D&(A|C)", 2, 4);
        gives("A-B&D", 1, 2, 3, 5, 6);
        gives("(A-B)&D", 2);
    }

    private static void depth() {
        DUE.of("Parentheses are nested at most 8 deep.");
        for (int depth = 0; depth <= 10; depth++) {
            String text = "(".repeat(depth) + "A" + ")".repeat(depth);
            asExpression(text, depth <= 8 ? 6 : -2008);
        }
        String deepest = EIGHT + "A" + "))))))))";
        asExpression(deepest + "&" + deepest + "|" + deepest, 6);
        asExpression("(((((((A)&(B)))))))", 3);
        asExpression("(((((((A)&((B))))))))", 3);
        asExpression("(((((((A)&(((B)))))))))", -2012);
        asExpression("(A)|(B)|(C)|(D)|(A)|(B)|(C)|(D)|(A)|(B)|(F)", 11);
    }

    private static void blanks() {
        DUE.of("Blanks (byte 32) can stand before and after each number, letter and sign, and alone in a text without "
                + "numbers.");
        asNumbers(" ", 0);
        asNumbers(" ".repeat(100), 0);
        asNumbers(" 1", 1);
        asNumbers("1 ", 1);
        asNumbers("  1  -  3  ,  5  ,  7  -  7  ", 5);
        asNumbers("1 2", -2002);
        asNumbers("\t1", -2000);
        asNumbers("1\n", -2001);
        asNumbers("1\u0000", -2001);
        asExpression("  A  ", 6);
        asExpression(" ( ( A ) | B ) & C ", 1);
        asExpression("( ( A )  )", 6);
        asExpression("A B", -2002);
        asExpression("A\t", -2001);
        asExpression(" ", -2001);
        asExpression(" ".repeat(100), -2100);
    }

    // ---- faults

    private static void bytesThatCannotStandInNumbers() {
        DUE.of("The fault of a text is the index, from 0, of the first byte that cannot stand at its place;");
        String digits = "0123456789";
        String[][] rows = {
            {"", " " + digits}, {"   ", " " + digits}, {"1", " ,-" + digits}, {"12345", " ,-" + digits},
            {"123456", " ,-"}, {"1 ", " ,-"}, {"1,", " 23456789"}, {"1 , ", " 23456789"}, {"1-", " 123456789"},
            {"1 - ", " 123456789"}, {"1-2", " ," + digits}, {"1-000002", " ,"}, {"1-2 ", " ,"},
            {"1-2,", " 3456789"}, {"1-2,3", " ,-" + digits}, {"1-2,3 ", " ,-"}, {"1-2,3-", " 3456789"},
        };
        for (String[] row : rows) {
            for (char letter = 0; letter < 128; letter++) {
                boolean refused = load(row[0] + letter) == -2000 - row[0].length();
                DUE.is("load() of '" + row[0] + "' and byte " + (int) letter + " refused", refused ? 1 : 0,
                        row[1].indexOf(letter) >= 0 ? 0 : 1);
            }
        }
    }

    private static void bytesThatCannotStandInExpressions() {
        String factor = " ABCDEF";
        String sign = " |-^&";
        String[][] rows = {
            {"", factor + "("}, {"  ", factor + "("}, {"A", sign}, {"A ", sign}, {"A|", factor + "("},
            {"A-", factor + "("}, {"A^", factor + "("}, {"A&", factor + "("}, {"A & ", factor + "("},
            {"(", factor + "("}, {"( ", factor + "("}, {"(A", sign + ")"}, {"(A ", sign + ")"}, {"(A)", sign},
            {"(A) ", sign}, {"((A)", sign + ")"}, {"(A&", factor + "("}, {"(((((((", factor + "("},
            {EIGHT, factor}, {EIGHT + "A", sign + ")"}, {EIGHT + "A|", factor}, {EIGHT + "A)&", factor + "("},
            {EIGHT + "A))))))))", sign},
        };
        for (String[] row : rows) {
            for (char letter = 0; letter < 128; letter++) {
                boolean refused = Texts.query(new PackedLists(), row[0] + letter) == -2000 - row[0].length();
                DUE.is("query() of '" + row[0] + "' and byte " + (int) letter + " refused", refused ? 1 : 0,
                        row[1].indexOf(letter) >= 0 ? 0 : 1);
            }
        }
    }

    private static void numbersThatAreNotGreater() {
        DUE.of("for a number that is not greater than all numbers before it in the text (behind \"-\", it may be "
                + "equal to the one before it), it is the index of its first digit;");
        asNumbers("5,5", -2002);
        asNumbers("5,6", 2);
        asNumbers("5,4", -2002);
        asNumbers("0,0", -2002);
        asNumbers("5,  0005", -2004);
        asNumbers("5-5", 1);
        asNumbers("5-4", -2002);
        asNumbers("5 -  4", -2005);
        asNumbers("5-5,5", -2004);
        asNumbers("5-5,6", 2);
        asNumbers("5-8,7", -2004);
        asNumbers("5-8,8", -2004);
        asNumbers("5-8,9", 5);
        asNumbers("5-8,9-9", 5);
        asNumbers("5-8,9-8", -2006);
        asNumbers("1,9,5", -2004);
        asNumbers("1,9,5-20", -2004);
        asNumbers("999999,999999", -2007);
        asNumbers("999999-999999", 1);
        asNumbers("999999-0", -2007);
    }

    private static void tooManyNumbers() {
        DUE.of("for a part with which there would be more than 200 numbers, the index behind the last digit of the "
                + "part;");
        asNumbers("1-200", 200);
        asNumbers("1-201", -2005);
        asNumbers("1 -  201  ", -2008);
        asNumbers("0-999999", -2008);
        asNumbers("1-199,300", 200);
        asNumbers("1-199,300,301", -2013);
        asNumbers("1-199,300-301", -2013);
        asNumbers("1-200,300", -2009);
        asNumbers("1-200,  300  ", -2011);
        asNumbers("1-200,300-300", -2013);
        asNumbers("1-200,300 - 000300", -2018);
        asNumbers("1-100,200-299", 200);
        asNumbers("1-100,200-300", -2013);
        asNumbers("1-200,300-", -2010);
        asNumbers("1-200,300-x", -2010);
    }

    private static void theNinthLevel() {
        DUE.of("for the parenthesis of a ninth level its own index;");
        asExpression(EIGHT + "(A)))))))))", -2008);
        asExpression(EIGHT + "  (", -2010);
        asExpression("A|" + EIGHT + "B&(C", -2012);
        asExpression("(A)|" + EIGHT + "(", -2012);
        asExpression(EIGHT + "A)|(B)|((C", -2016);
    }

    private static void textsThatEndTooEarly() {
        DUE.of("and it is the length of the text if the text ends too early.");
        asNumbers("1,", -2002);
        asNumbers("1,   ", -2005);
        asNumbers("1-", -2002);
        asNumbers("1-  ", -2004);
        asNumbers("1-2,", -2004);
        asNumbers("1," + " ".repeat(98), -2100);
        asExpression("", -2000);
        asExpression("   ", -2003);
        asExpression("(", -2001);
        asExpression("(A", -2002);
        asExpression("(A  ", -2004);
        asExpression("((A)", -2004);
        asExpression("A&", -2002);
        asExpression("A|B^ ", -2005);
        asExpression(EIGHT, -2008);
        asExpression(EIGHT + "A", -2009);
        asExpression("A|".repeat(50), -2100);
    }

    private static void theLeastFault() {
        DUE.of("If a text has several faults, the one with the least index counts.");
        asNumbers("5,4,3", -2002);
        asNumbers("5,4x", -2002);
        asNumbers("5x,4", -2001);
        asNumbers("5,4-", -2002);
        asNumbers("9,0000001", -2002);
        asNumbers("1-201,0", -2005);
        asNumbers("1-201 x", -2005);
        asNumbers("1-200,300 x", -2009);
        asNumbers("1-200,200", -2006);
        asNumbers("1-200,5-999", -2006);
        asNumbers("9-1,", -2002);
        asExpression("A)|(", -2001);
        asExpression("AB" + EIGHT + "(", -2001);
        asExpression(EIGHT + "(G", -2008);
        asExpression(EIGHT + "G(", -2008);
        asExpression("(A&", -2003);
    }

    private static void faultsLeaveNoRest() {
        DUE.of("Results of -2000 and less, the faults of texts, are errors, too.");
        PackedLists x = withLists();
        Texts.type(x, "A-(B|((C^(D&(E-(F|(A&");
        for (int times = 0; times < 40; times++) {
            DUE.is("query() of a text that ends too early", x.query(), -2021);
            DUE.is("load() of it", x.load(4), -2000);
        }
        DUE.is("a good expression behind it", Texts.query(x, "A-(B|D)&(C|D)^F"), 4);
        DUE.result("its numbers", x, 1, 3, 5, 999999);
        Texts.type(x, "1-99,101-199,300,");
        for (int times = 0; times < 40; times++) {
            DUE.is("load() of a text that ends too early", x.load(4), -2017);
            DUE.is("query() of it", x.query(), -2000);
        }
        DUE.is("good numbers behind it", Texts.load(x, 4, "0-99,800-899"), 200);
    }

    // ---- promises 9 and 10

    private static void typeAppends() {
        DUE.of("`letter`: 0 to 127");
        for (int letter = 0; letter <= 127; letter++) {
            PackedLists x = Texts.type(new PackedLists(), "A");
            DUE.is("type(" + letter + ")", x.type(letter), 2);
        }
        for (int letter : new int[] {Integer.MIN_VALUE, -128, -1, 128, 255, 256, 65536 + 'A', Integer.MAX_VALUE}) {
            DUE.is("type(" + letter + ")", new PackedLists().type(letter), BAD);
        }
        DUE.of("Returns the length of the text then; BAD; FULL if it has 100 bytes.");
        PackedLists x = new PackedLists();
        Texts.type(x, " ".repeat(99));
        DUE.is("the 100th byte", x.type('7'), 100);
        DUE.is("the 101st byte", x.type('7'), FULL);
        DUE.is("the 101st byte again", x.type(0), FULL);
        DUE.is("a bad byte behind the 100th", x.type(-1), BAD);
        DUE.is("a bad byte behind the 100th", x.type(128), BAD);
        DUE.is("the 100 bytes are as before", x.load(0), 1);
        DUE.is("behind load()", x.type('8'), 1);
    }

    private static void eraseEmpties() {
        DUE.of("Returns the length that it had.");
        PackedLists x = new PackedLists();
        DUE.is("at first", x.erase(), 0);
        x.type('A');
        DUE.is("one byte", x.erase(), 1);
        DUE.is("no byte", x.erase(), 0);
        Texts.type(x, "1".repeat(100));
        DUE.is("100 bytes", x.erase(), 100);
        DUE.is("there is room again", x.type('2'), 1);
        DUE.is("for other bytes", x.load(0), 1);
        DUE.is("with their own number", x.list(0, 4), 2);
        DUE.is("load() has erased it", x.erase(), 0);
        Texts.query(x, "A");
        DUE.is("query() has not", x.erase(), 1);
        DUE.result("erase() leaves the result", x, 2);
    }
}
