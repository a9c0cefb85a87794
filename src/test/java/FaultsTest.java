import java.util.ArrayList;
import java.util.List;
import java.util.TreeSet;
import java.util.regex.Matcher;
import java.util.regex.Pattern;

/**
 * All short texts behind some beginnings. The faults that are due are not found by reading on until something is
 * wrong, as the class does, but all of them are gathered by what the document says of each kind, and the least counts.
 */
final class FaultsTest {
    private static final Due DUE = new Due("FaultsTest");
    private static final int LAST_CALL = 512;
    private static final int LONGEST_CASE = 30;

    private static final String PART = " *[0-9]{1,6} *(?:- *[0-9]{1,6} *)?";
    private static final Pattern NUMBERS = Pattern.compile(" *|" + PART + "(?:," + PART + ")*");
    private static final Pattern SIGNS = Pattern.compile("[0-9]{1,6}|[-,]");
    private static final Pattern EXPRESSION = Pattern.compile(nested(8));

    private static PackedLists store = new PackedLists();
    private static int calls;

    private FaultsTest() {
    }

    public static void main(String[] args) {
        numbers("", "059,- x", 5);
        numbers("1-200,", "39,- x", 5);
        numbers("1-199,", "39,- x", 5);
        numbers("1-200,300", "04,- x", 5);
        numbers("5,0000", "09,- ", 6);
        numbers("0-20", "019-, ", 5);
        numbers("9 - ", "019-, ", 5);
        numbers("1-300", "09-, x", 4);
        expressions("", "AG&-() |", 5);
        expressions("A", "F^|&-()a", 4);
        expressions("(((((((", "A(&) ", 6);
        expressions("(A)&((((((", "A()- ", 6);
        DUE.finish();
    }

    // ---- numbers

    private static void numbers(String beginning, String letters, int most) {
        for (String text : texts(beginning, letters, most)) {
            TreeSet<Integer> faults = faultsAsNumbers(text);
            Texts.type(next(), text);
            if (faults.isEmpty()) {
                DUE.is("load of \"" + text + "\"", store.load(0), sizeOf(text));
            } else {
                DUE.is("load of \"" + text + "\"", store.load(0), -2000 - faults.first());
                DUE.is("length of \"" + text + "\" behind load", store.count(9), text.length());
            }
        }
    }

    private static TreeSet<Integer> faultsAsNumbers(String text) {
        TreeSet<Integer> faults = new TreeSet<>();
        int end = 0;
        while (end < text.length() && canBegin(NUMBERS, text.substring(0, end + 1), "", "0")) {
            end++;
        }
        if (end < text.length() || !NUMBERS.matcher(text).matches()) {
            faults.add(end);
        }
        addSmallNumbers(text.substring(0, end), faults);
        addLargeParts(text.substring(0, end), faults);
        return faults;
    }

    /** "for a number that is not greater than all numbers before it in the text (behind "-", it may be equal ..)" */
    private static void addSmallNumbers(String text, TreeSet<Integer> faults) {
        int greatest = -1;
        boolean behindSign = false;
        for (Matcher sign = SIGNS.matcher(text); sign.find(); ) {
            if (isNumber(sign.group())) {
                int number = Integer.parseInt(sign.group());
                if (number < greatest || number == greatest && !behindSign) {
                    faults.add(sign.start());
                }
                greatest = Math.max(greatest, number);
            }
            behindSign = sign.group().equals("-");
        }
    }

    /** "for a part with which there would be more than 200 numbers": a number and a "-" alone are no part. */
    private static void addLargeParts(String text, TreeSet<Integer> faults) {
        int numbers = 0;
        int start = 0;
        for (String part : text.split(",", -1)) {
            if (part.matches(PART)) {
                numbers += sizeOf(part);
                if (numbers > 200) {
                    faults.add(start + part.stripTrailing().length());
                }
            }
            start += part.length() + 1;
        }
    }

    /** How many numbers a text has in which each number stands at its place. */
    private static int sizeOf(String text) {
        int size = 0;
        for (String part : text.split(",", -1)) {
            if (!part.isBlank()) {
                String[] ends = part.split("-");
                int first = Integer.parseInt(ends[0].strip());
                int last = Integer.parseInt(ends[ends.length - 1].strip());
                size += Math.max(0, last - first + 1);
            }
        }
        return size;
    }

    private static boolean isNumber(String sign) {
        return Character.isDigit(sign.charAt(0));
    }

    // ---- expressions

    private static void expressions(String beginning, String letters, int most) {
        for (String text : texts(beginning, letters, most)) {
            int fault = faultAsExpression(text);
            Texts.type(next(), text);
            DUE.is("query of \"" + text + "\"", store.query(), fault < 0 ? 0 : -2000 - fault);
            DUE.is("length of \"" + text + "\" behind query", store.count(9), text.length());
        }
    }

    /** Negative if there is none. The parenthesis of a ninth level is a byte that cannot stand at its place. */
    private static int faultAsExpression(String text) {
        for (int end = 1; end <= text.length(); end++) {
            if (!canBegin(EXPRESSION, text.substring(0, end), completions(text))) {
                return end - 1;
            }
        }
        return EXPRESSION.matcher(text).matches() ? -1 : text.length();
    }

    /** What can follow a beginning of an expression so that it is whole. */
    private static String[] completions(String text) {
        int most = text.length() - text.replace("(", "").length();
        String[] ends = new String[2 * most + 2];
        for (int closed = 0; closed <= most; closed++) {
            ends[2 * closed] = ")".repeat(closed);
            ends[2 * closed + 1] = "A" + ")".repeat(closed);
        }
        return ends;
    }

    /** Which texts are expressions; which sign stands between two factors doesn't matter for this. */
    private static String nested(int levels) {
        String factor = levels == 0 ? " *[A-F] *" : " *(?:[A-F]|\\(" + nested(levels - 1) + "\\)) *";
        return factor + "(?:[-|^&]" + factor + ")*";
    }

    // ---- both

    private static boolean canBegin(Pattern whole, String beginning, String... ends) {
        for (String end : ends) {
            if (whole.matcher(beginning + end).matches()) {
                return true;
            }
        }
        return false;
    }

    /** The beginning with up to so many letters behind it, in all ways. */
    private static List<String> texts(String beginning, String letters, int most) {
        List<String> texts = new ArrayList<>();
        texts.add(beginning);
        for (int index = 0; index < texts.size(); index++) {
            if (texts.get(index).length() < beginning.length() + most) {
                for (char letter : letters.toCharArray()) {
                    texts.add(texts.get(index) + letter);
                }
            }
        }
        return texts;
    }

    /** What an object answers behind its 512th call is free, so there is a new one in time. */
    private static PackedLists next() {
        calls += LONGEST_CASE;
        if (calls > LAST_CALL) {
            store = new PackedLists();
            calls = LONGEST_CASE;
        }
        return store;
    }
}
