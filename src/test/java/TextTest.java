/** Promises 9 and 10, and the faults of texts as load() and query() tell them. */
public final class TextTest {
    private static final int BAD = PackedLists.BAD, FULL = PackedLists.FULL;
    private static final Due DUE = new Due("TextTest");

    public static void main(String[] args) {
        promise9Type();
        promise10Erase();
        goodNumbers();
        faultsOfNumbers();
        tooManyNumbers();
        goodExpressions();
        faultsOfExpressions();
        faultsLeaveNothingBehind();
        DUE.finish();
    }

    private static void promise9Type() {
        PackedLists x = new PackedLists();
        DUE.is("type(-1)", x.type(-1), BAD);
        DUE.is("type(128)", x.type(128), BAD);
        DUE.is("type(0)", x.type(0), 1);
        DUE.is("type(127)", x.type(127), 2);
        long before = x.digest();
        DUE.is("type(65)", x.type(65), 3);
        DUE.holds("the bytes are in the digest", x.digest() != before);
        for (int length = 4; length <= 100; length++) {
            DUE.is("type(32)", x.type(32), length);
        }
        DUE.is("a byte too many", x.type(32), FULL);
        DUE.is("a bad byte too many", x.type(200), BAD);
        DUE.is("length", x.count(9), 100);
    }

    private static void promise10Erase() {
        PackedLists x = new PackedLists();
        DUE.is("erase() at first", x.erase(), 0);
        Texts.type(x, "A|B");
        DUE.is("erase()", x.erase(), 3);
        DUE.is("count(9)", x.count(9), 0);
        DUE.is("erase() again", x.erase(), 0);
        DUE.is("type(66)", x.type(66), 1);
        DUE.is("what was erased is gone", x.query(), 0);
    }

    private static void asNumbers(String text, int answer) {
        PackedLists x = new PackedLists();
        DUE.is("load of '" + text + "'", Texts.load(x, 0, text), answer);
        DUE.is("text behind load of '" + text + "'", x.count(9), answer < 0 ? text.length() : 0);
        DUE.is("list behind load of '" + text + "'", x.list(0, 0), Math.max(0, answer));
        DUE.is("states behind load of '" + text + "'", x.count(8), answer < 0 ? 0 : 1);
    }

    private static void goodNumbers() {
        asNumbers("", 0);
        asNumbers("   ", 0);
        asNumbers("0", 1);
        asNumbers("000000", 1);
        asNumbers("999999", 1);
        asNumbers("  7  ", 1);
        asNumbers(" 1 , 2 - 4 ,5 ", 5);
        asNumbers("7-7", 1);
        asNumbers("7-7,8", 2);
        asNumbers("000001-000003,4", 4);
        asNumbers("0-199", 200);
        asNumbers("0-99,100-199", 200);
    }

    private static void faultsOfNumbers() {
        asNumbers("x", -2000);
        asNumbers(" ,", -2001);
        asNumbers("-1", -2000);
        asNumbers("1,", -2002);
        asNumbers("1, ", -2003);
        asNumbers("1-", -2002);
        asNumbers("1 -  ", -2005);
        asNumbers("1,,2", -2002);
        asNumbers("1--2", -2002);
        asNumbers("1-2-3", -2003);
        asNumbers("1 2", -2002);
        asNumbers("1-2 3", -2004);
        asNumbers("1.", -2001);
        asNumbers("1\t", -2001);
        asNumbers("A", -2000);
        asNumbers("1234567", -2006);
        asNumbers("1-0000002", -2002);
        asNumbers("1-1234567", -2008);
        asNumbers("5,5", -2002);
        asNumbers("5,4", -2002);
        asNumbers("5, 000005", -2003);
        asNumbers("5-8,8", -2004);
        asNumbers("5-4", -2002);
        asNumbers("1,5-4", -2004);
        asNumbers("5,3x", -2002);
        asNumbers("5,0000009", -2002);
        asNumbers("5x,3", -2001);
        asNumbers("9,5-", -2002);
    }

    private static void tooManyNumbers() {
        asNumbers("1-201", -2005);
        asNumbers("1-201,x", -2005);
        asNumbers("1-201 x", -2005);
        asNumbers("0-999999", -2008);
        asNumbers("1-200,300", -2009);
        asNumbers("1-200,300 ", -2009);
        asNumbers("1-200,300 x", -2009);
        asNumbers("1-200,300,301", -2009);
        asNumbers("1-200,300-400", -2013);
        asNumbers("1-200,300 - 400 ", -2015);
        asNumbers("1-200,300-300", -2013);
        asNumbers("1-200,300-", -2010);
        asNumbers("1-200,300 -x", -2011);
        asNumbers("1-200,300-200", -2010);
        asNumbers("1-200,200", -2006);
        asNumbers("1-200,", -2006);
        asNumbers("1-200,1234567", -2012);
        asNumbers("1-150,200-250", -2013);
        asNumbers("1-150,200-249", 200);
    }

    private static void asExpression(String text, int answer) {
        PackedLists x = new PackedLists();
        Texts.load(x, 0, "1,2,3");
        Texts.load(x, 1, "3,4");
        Texts.load(x, 5, "9");
        DUE.is("query of '" + text + "'", Texts.query(x, text), answer);
        DUE.is("text behind query of '" + text + "'", x.count(9), text.length());
        DUE.is("result behind query of '" + text + "'", x.count(6), answer < 0 ? PackedLists.NONE : answer);
    }

    private static void goodExpressions() {
        asExpression("A", 3);
        asExpression(" A ", 3);
        asExpression("F", 1);
        asExpression("C", 0);
        asExpression("A|B", 4);
        asExpression(" ( A | B ) & ( B ) ", 2);
        asExpression("((((((((A))))))))", 3);
        asExpression("((((((((A))))))))|((((((((B))))))))", 4);
        asExpression("(((((((A)&(B))))))|F)", 2);
    }

    private static void faultsOfExpressions() {
        asExpression("", -2000);
        asExpression("  ", -2002);
        asExpression("G", -2000);
        asExpression("a", -2000);
        asExpression("@", -2000);
        asExpression("1", -2000);
        asExpression("AB", -2001);
        asExpression("A B", -2002);
        asExpression("A|", -2002);
        asExpression("A| ", -2003);
        asExpression("A||B", -2002);
        asExpression("&A", -2000);
        asExpression("A&)", -2002);
        asExpression("A)", -2001);
        asExpression("(A))", -2003);
        asExpression("(A", -2002);
        asExpression("(A ", -2003);
        asExpression("(", -2001);
        asExpression("()", -2001);
        asExpression("A(B)", -2001);
        asExpression("(A)B", -2003);
        asExpression("(A)(B)", -2003);
        asExpression("A+B", -2001);
        asExpression("A,B", -2001);
        asExpression("(((((((((A)))))))))", -2008);
        asExpression("(((((((( (A", -2009);
        asExpression("A|((((((((B|(A", -2012);
        asExpression("((((((((A", -2009);
    }

    private static void faultsLeaveNothingBehind() {
        PackedLists x = new PackedLists();
        Texts.load(x, 0, "1,2,3");
        Texts.load(x, 1, "3,4");
        Texts.load(x, 2, "4,5");
        Texts.type(x, "(A-((B&(((((C|");
        for (int times = 0; times < 100; times++) {
            DUE.is("a text that ends too early", x.query(), -2014);
        }
        DUE.is("a good text behind it", Texts.query(x, "(A|B)&C-A"), 1);
        DUE.is("its result", x.result(0), 4);
        Texts.type(x, "1-200,x");
        for (int times = 0; times < 100; times++) {
            DUE.is("numbers with a fault", x.load(0), -2006);
        }
        DUE.is("good numbers behind it", Texts.load(x, 0, "7,9"), 2);
        DUE.is("the first of them", x.list(0, 4), 7);
    }
}
