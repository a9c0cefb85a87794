import java.util.ArrayDeque;
import java.util.ArrayList;
import java.util.Arrays;
import java.util.Deque;
import java.util.List;
import java.util.TreeSet;
import java.util.regex.Matcher;
import java.util.regex.Pattern;

/**
 * The document put into code as literally as possible, in other ways than the class does it: lists are lists of
 * blocks, states are copies of everything, costs are tried with every width, texts are read by patterns and by
 * recursion. ModelTest compares both.
 */
final class NaiveLists {
    private static final int NONE = -1, BAD = -2, STATE = -3, FULL = -4;
    private static final String NUMBER = "[0-9]{1,6}";
    private static final String PART = NUMBER + " *(- *" + NUMBER + " *)?";
    private static final Pattern NUMBERS = Pattern.compile(" *(" + PART + "(, *" + PART + ")*)?", Pattern.DOTALL);
    private static final Pattern ONE_PART = Pattern.compile("(" + NUMBER + ")( *- *(" + NUMBER + ")?)?");

    private List<List<List<Integer>>> lists = new ArrayList<>();
    private final Deque<List<List<List<Integer>>>> history = new ArrayDeque<>();
    /** The latest look last. */
    private final List<List<Integer>> cache = new ArrayList<>();
    private int hits;
    private int misses;
    private List<Integer> result;
    private int resultProbes;
    private int probes;
    private String text = "";

    NaiveLists() {
        for (int list = 0; list < 6; list++) {
            lists.add(new ArrayList<>());
        }
    }

    // ---- changing lists

    int add(int list, int value) {
        if (noList(list) || noValue(value)) {
            return BAD;
        }
        if (numbers(list).contains(value)) {
            return STATE;
        }
        if (numbers(list).size() == 200) {
            return FULL;
        }
        change(list);
        List<List<Integer>> blocks = lists.get(list);
        if (blocks.isEmpty()) {
            blocks.add(new ArrayList<>(List.of(value)));
            return 0;
        }
        int target = 0;
        for (int b = 0; b < blocks.size(); b++) {
            if (blocks.get(b).get(0) < value) {
                target = b;
            }
        }
        List<Integer> grown = new ArrayList<>(new TreeSet<>(blocks.get(target)) {
            private static final long serialVersionUID = 1L;
            {
                add(value);
            }
        });
        blocks.set(target, grown);
        if (grown.size() == 65) {
            blocks.set(target, new ArrayList<>(grown.subList(0, 32)));
            blocks.add(target + 1, new ArrayList<>(grown.subList(32, 65)));
        }
        return numbers(list).indexOf(value);
    }

    int remove(int list, int value) {
        if (noList(list) || noValue(value)) {
            return BAD;
        }
        int index = numbers(list).indexOf(value);
        if (index < 0) {
            return STATE;
        }
        change(list);
        for (List<Integer> block : lists.get(list)) {
            block.remove((Integer) value);
        }
        lists.get(list).removeIf(List::isEmpty);
        return index;
    }

    int pack(int list, int length) {
        if (noList(list) || length < 0 || length > 64) {
            return BAD;
        }
        change(list);
        lists.set(list, packed(numbers(list), length));
        return costOf(lists.get(list));
    }

    int load(int list) {
        if (noList(list)) {
            return BAD;
        }
        int fault = faultAsNumbers(text);
        if (fault != NONE) {
            return -2000 - fault;
        }
        change(list);
        List<Integer> read = new ArrayList<>();
        Matcher parts = ONE_PART.matcher(text);
        while (parts.find()) {
            int from = Integer.parseInt(parts.group(1));
            int to = parts.group(3) == null ? from : Integer.parseInt(parts.group(3));
            for (int number = from; number <= to; number++) {
                read.add(number);
            }
        }
        lists.set(list, packed(read, 0));
        text = "";
        return read.size();
    }

    int store(int list) {
        if (noList(list)) {
            return BAD;
        }
        if (result == null) {
            return STATE;
        }
        if (result.size() > 200) {
            return FULL;
        }
        change(list);
        lists.set(list, packed(result, 0));
        return result.size();
    }

    int clear(int list) {
        if (noList(list)) {
            return BAD;
        }
        change(list);
        int size = numbers(list).size();
        lists.set(list, new ArrayList<>());
        return size;
    }

    int undo() {
        if (history.isEmpty()) {
            return STATE;
        }
        lists = history.removeLast();
        cache.clear();
        return history.size();
    }

    // ---- text

    int type(int letter) {
        if (letter < 0 || letter > 127) {
            return BAD;
        }
        if (text.length() == 100) {
            return FULL;
        }
        text += (char) letter;
        return text.length();
    }

    int erase() {
        int length = text.length();
        text = "";
        return length;
    }

    // ---- blocks

    int list(int list, int what) {
        if (noList(list) || what < 0 || what > 5) {
            return BAD;
        }
        List<Integer> all = numbers(list);
        int exceptions = 0;
        for (List<Integer> block : lists.get(list)) {
            exceptions += exceptionsOf(block, bestWidth(block)).size();
        }
        int least = all.isEmpty() ? NONE : all.get(0);
        int greatest = all.isEmpty() ? NONE : all.get(all.size() - 1);
        int[] answers = {all.size(), lists.get(list).size(), costOf(lists.get(list)), exceptions, least, greatest};
        return answers[what];
    }

    int block(int list, int block, int what) {
        if (noBlock(list, block) || what < 0 || what > 6) {
            return BAD;
        }
        List<Integer> numbers = lists.get(list).get(block);
        int width = bestWidth(numbers);
        int first = numbers(list).indexOf(numbers.get(0));
        int[] answers = {first, numbers.size(), numbers.get(0), width, exceptionsOf(numbers, width).size(),
            costOf(numbers, width), wordsOf(numbers).length};
        return answers[what];
    }

    long word(int list, int block, int k) {
        if (noBlock(list, block)) {
            return BAD;
        }
        long[] words = wordsOf(lists.get(list).get(block));
        return k < 0 || k >= words.length ? BAD : words[k];
    }

    int exception(int list, int block, int k, int what) {
        if (noBlock(list, block) || what < 0 || what > 1) {
            return BAD;
        }
        List<Integer> numbers = lists.get(list).get(block);
        int width = bestWidth(numbers);
        List<Integer> exceptions = exceptionsOf(numbers, width);
        if (k < 0 || k >= exceptions.size()) {
            return BAD;
        }
        int index = exceptions.get(k);
        return what == 0 ? index : gap(numbers, index) / power(width);
    }

    int gaps(int list, int bits) {
        if (noList(list) || bits < 0 || bits > 20) {
            return BAD;
        }
        int count = 0;
        List<Integer> all = numbers(list);
        for (int index = 1; index < all.size(); index++) {
            count += bitsOf(gap(all, index)) == bits ? 1 : 0;
        }
        return count;
    }

    int costBy(int list, int length) {
        if (noList(list) || length < 0 || length > 64) {
            return BAD;
        }
        return costOf(packed(numbers(list), length));
    }

    int part(int list, int first, int last, int what) {
        if (noList(list) || what < 0 || what > 2) {
            return BAD;
        }
        List<Integer> all = numbers(list);
        if (first < 0 || first >= all.size() || last < first || last >= all.size() || last > first + 63) {
            return BAD;
        }
        List<Integer> part = all.subList(first, last + 1);
        int width = bestWidth(part);
        int[] answers = {width, costOf(part, width), exceptionsOf(part, width).size()};
        return answers[what];
    }

    // ---- finding

    int at(int list, int index) {
        if (noList(list) || index < 0 || index >= numbers(list).size()) {
            return BAD;
        }
        int seen = 0;
        for (int b = 0; b < lists.get(list).size(); b++) {
            for (int number : lists.get(list).get(b)) {
                if (seen == index) {
                    look(list, b);
                    return number;
                }
                seen++;
            }
        }
        throw new IllegalStateException();
    }

    int find(int list, int value, int what) {
        if (noList(list) || noValue(value) || what < 0 || what > 1) {
            return BAD;
        }
        int last = NONE;
        for (int b = 0; b < lists.get(list).size(); b++) {
            if (lists.get(list).get(b).get(0) <= value) {
                last = b;
            }
        }
        if (last != NONE) {
            look(list, last);
        }
        List<Integer> all = numbers(list);
        for (int index = 0; index < all.size(); index++) {
            if (all.get(index) >= value) {
                return what == 0 ? index : all.get(index);
            }
        }
        return NONE;
    }

    int cached(int list, int block) {
        if (noBlock(list, block)) {
            return BAD;
        }
        return cache.contains(List.of(list, block)) ? 1 : 0;
    }

    private void look(int list, int block) {
        List<Integer> key = List.of(list, block);
        if (cache.remove(key)) {
            hits++;
        } else {
            misses++;
            if (cache.size() == 4) {
                cache.remove(0);
            }
        }
        cache.add(key);
    }

    // ---- expressions

    int query() {
        probes = 0;
        try {
            ExpressionParser parser = new ExpressionParser();
            List<Integer> read = parser.expression(0);
            parser.expectEnd();
            result = read;
            resultProbes = probes;
            return result.size();
        } catch (Fault fault) {
            return -2000 - fault.index;
        }
    }

    int result(int index) {
        if (index < 0) {
            return BAD;
        }
        if (result == null) {
            return STATE;
        }
        return index < result.size() ? result.get(index) : NONE;
    }

    int common(int first, int second, int what) {
        if (noList(first) || noList(second) || what < 0 || what > 1) {
            return BAD;
        }
        probes = 0;
        int taken = intersect(numbers(first), numbers(second)).size();
        return what == 0 ? taken : probes;
    }

    // ---- numbers

    int count(int what) {
        if (what < 0 || what > 9) {
            return BAD;
        }
        int[] sums = new int[3];
        for (int list = 0; list < 6; list++) {
            for (int asked = 0; asked < 3; asked++) {
                sums[asked] += list(list, asked);
            }
        }
        int[] answers = {sums[0], sums[1], sums[2], cache.size(), hits, misses,
            result == null ? NONE : result.size(), result == null ? NONE : resultProbes, history.size(),
            text.length()};
        return answers[what];
    }

    long digest() {
        List<Long> all = new ArrayList<>();
        for (int what = 0; what < 10; what++) {
            all.add((long) count(what));
        }
        for (int list = 0; list < 6; list++) {
            for (int what = 0; what < 6; what++) {
                all.add((long) list(list, what));
            }
            for (int block = 0; block < lists.get(list).size(); block++) {
                digestBlock(list, block, all);
            }
        }
        for (int list = 0; list < 6; list++) {
            numbers(list).forEach(number -> all.add((long) number));
        }
        if (result != null) {
            result.forEach(number -> all.add((long) number));
        }
        text.chars().forEach(letter -> all.add((long) letter));
        long hash = 619;
        for (long number : all) {
            hash = 31 * hash + number;
        }
        return hash;
    }

    private void digestBlock(int list, int block, List<Long> all) {
        for (int what = 0; what < 7; what++) {
            all.add((long) block(list, block, what));
        }
        for (int k = 0; k < block(list, block, 6); k++) {
            all.add(word(list, block, k));
        }
        for (int k = 0; k < block(list, block, 4); k++) {
            all.add((long) exception(list, block, k, 0));
            all.add((long) exception(list, block, k, 1));
        }
        all.add((long) cached(list, block));
    }

    // ---- lists and costs

    private static boolean noList(int list) {
        return list < 0 || list > 5;
    }

    private static boolean noValue(int value) {
        return value < 0 || value > 999999;
    }

    private boolean noBlock(int list, int block) {
        return noList(list) || block < 0 || block >= lists.get(list).size();
    }

    List<Integer> numbers(int list) {
        List<Integer> all = new ArrayList<>();
        lists.get(list).forEach(all::addAll);
        return all;
    }

    private void change(int list) {
        List<List<List<Integer>>> copy = new ArrayList<>();
        for (List<List<Integer>> blocks : lists) {
            List<List<Integer>> copied = new ArrayList<>();
            blocks.forEach(block -> copied.add(new ArrayList<>(block)));
            copy.add(copied);
        }
        history.addLast(copy);
        if (history.size() > 8) {
            history.removeFirst();
        }
        cache.removeIf(key -> key.get(0) == list);
    }

    private static int power(int bits) {
        int power = 1;
        for (int bit = 0; bit < bits; bit++) {
            power *= 2;
        }
        return power;
    }

    private static int bitsOf(int gap) {
        int bits = 0;
        while (gap >= power(bits)) {
            bits++;
        }
        return bits;
    }

    private static int gap(List<Integer> numbers, int index) {
        return numbers.get(index) - numbers.get(index - 1) - 1;
    }

    private static List<Integer> exceptionsOf(List<Integer> numbers, int width) {
        List<Integer> exceptions = new ArrayList<>();
        for (int index = 1; index < numbers.size(); index++) {
            if (gap(numbers, index) >= power(width)) {
                exceptions.add(index);
            }
        }
        return exceptions;
    }

    private static int costOf(List<Integer> numbers, int width) {
        return 32 + width * (numbers.size() - 1) + 28 * exceptionsOf(numbers, width).size();
    }

    static int bestWidth(List<Integer> numbers) {
        int best = 20;
        for (int width = 20; width >= 0; width--) {
            if (costOf(numbers, width) <= costOf(numbers, best)) {
                best = width;
            }
        }
        return best;
    }

    static int costOf(List<List<Integer>> blocks) {
        int cost = 0;
        for (List<Integer> block : blocks) {
            cost += costOf(block, bestWidth(block));
        }
        return cost;
    }

    private static long[] wordsOf(List<Integer> numbers) {
        int width = bestWidth(numbers);
        StringBuilder bits = new StringBuilder();
        for (int index = 1; index < numbers.size(); index++) {
            for (int bit = 0; bit < width; bit++) {
                bits.append(gap(numbers, index) / power(bit) % 2);
            }
        }
        while (bits.length() % 32 != 0) {
            bits.append('0');
        }
        long[] words = new long[bits.length() / 32];
        for (int k = 0; k < words.length; k++) {
            words[k] = Long.parseLong(new StringBuilder(bits.substring(32 * k, 32 * k + 32)).reverse().toString(), 2);
        }
        return words;
    }

    private static List<List<Integer>> packed(List<Integer> numbers, int length) {
        List<Integer> lengths = new ArrayList<>();
        if (length == 0) {
            lengths = bestLengths(numbers);
        } else {
            for (int left = numbers.size(); left > 0; left -= length) {
                lengths.add(Math.min(left, length));
            }
        }
        List<List<Integer>> blocks = new ArrayList<>();
        int start = 0;
        for (int some : lengths) {
            blocks.add(new ArrayList<>(numbers.subList(start, start + some)));
            start += some;
        }
        return blocks;
    }

    /** For each beginning all lengths are tried, and the whole sequences compared. */
    private static List<Integer> bestLengths(List<Integer> numbers) {
        int size = numbers.size();
        int[] costs = new int[size + 1];
        List<List<Integer>> best = new ArrayList<>();
        for (int start = 0; start <= size; start++) {
            best.add(new ArrayList<>());
        }
        for (int start = size - 1; start >= 0; start--) {
            int[] byBits = new int[21];
            for (int length = 1; length <= 64 && start + length <= size; length++) {
                if (length > 1) {
                    byBits[bitsOf(gap(numbers, start + length - 1))]++;
                }
                int cost = leastCost(byBits, length) + costs[start + length];
                List<Integer> lengths = new ArrayList<>(List.of(length));
                lengths.addAll(best.get(start + length));
                if (length == 1 || compare(cost, lengths, costs[start], best.get(start)) < 0) {
                    costs[start] = cost;
                    best.set(start, lengths);
                }
            }
        }
        return best.get(0);
    }

    private static int leastCost(int[] byBits, int length) {
        int least = Integer.MAX_VALUE;
        for (int width = 0; width <= 20; width++) {
            int exceptions = 0;
            for (int bits = width + 1; bits <= 20; bits++) {
                exceptions += byBits[bits];
            }
            least = Math.min(least, 32 + width * (length - 1) + 28 * exceptions);
        }
        return least;
    }

    static int compare(int cost, List<Integer> lengths, int otherCost, List<Integer> otherLengths) {
        if (cost != otherCost) {
            return Integer.compare(cost, otherCost);
        }
        if (lengths.size() != otherLengths.size()) {
            return Integer.compare(lengths.size(), otherLengths.size());
        }
        return Arrays.compare(lengths.toArray(new Integer[0]), otherLengths.toArray(new Integer[0]));
    }

    // ---- galloping

    private List<Integer> intersect(List<Integer> first, List<Integer> second) {
        List<Integer> taken = new ArrayList<>();
        int i = 0;
        int j = 0;
        while (i < first.size() && j < second.size()) {
            int order = Integer.compare(first.get(i), second.get(j));
            if (order == 0) {
                taken.add(first.get(i));
                i++;
                j++;
            } else if (order < 0) {
                i = gallop(first, i, second.get(j));
            } else {
                j = gallop(second, j, first.get(i));
            }
        }
        return taken;
    }

    private int gallop(List<Integer> row, int p, int t) {
        probes++;
        if (row.get(p) >= t) {
            return p;
        }
        int low = p;
        int s = 1;
        int high = -1;
        while (p + s < row.size()) {
            probes++;
            if (row.get(p + s) >= t) {
                high = p + s;
                break;
            }
            low = p + s;
            s *= 2;
        }
        if (high < 0) {
            high = row.size();
        }
        while (low + 1 < high) {
            int middle = (low + high) / 2;
            probes++;
            if (row.get(middle) >= t) {
                high = middle;
            } else {
                low = middle;
            }
        }
        return high;
    }

    // ---- texts

    /** All faults are gathered, and the least one is taken. */
    static int faultAsNumbers(String text) {
        TreeSet<Integer> faults = new TreeSet<>();
        int standing = 0;
        while (standing < text.length() && canBegin(text.substring(0, standing + 1))) {
            standing++;
        }
        if (standing < text.length() || !NUMBERS.matcher(text).matches()) {
            faults.add(standing);
        }
        int greatest = NONE;
        int numbers = 0;
        Matcher parts = ONE_PART.matcher(text.substring(0, standing));
        while (parts.find()) {
            int from = Integer.parseInt(parts.group(1));
            if (from <= greatest) {
                faults.add(parts.start(1));
            }
            int to = parts.group(3) == null ? from : Integer.parseInt(parts.group(3));
            if (to < from) {
                faults.add(parts.start(3));
            }
            greatest = Math.max(greatest, Math.max(from, to));
            numbers += Math.max(0, to - from + 1);
            boolean whole = parts.group(2) == null || parts.group(3) != null;
            if (numbers > 200 && whole) {
                faults.add(parts.group(3) == null ? parts.end(1) : parts.end(3));
            }
        }
        return faults.isEmpty() ? NONE : faults.first();
    }

    private static boolean canBegin(String start) {
        Matcher matcher = NUMBERS.matcher(start);
        return matcher.matches() || matcher.hitEnd();
    }

    private static final class Fault extends Exception {
        private static final long serialVersionUID = 1L;
        final int index;

        Fault(int index) {
            this.index = index;
        }
    }

    private final class ExpressionParser {
        private int position;

        private char next() {
            while (position < text.length() && text.charAt(position) == ' ') {
                position++;
            }
            return position < text.length() ? text.charAt(position) : '\uffff';
        }

        List<Integer> expression(int depth) throws Fault {
            TreeSet<Integer> left = new TreeSet<>(term(depth));
            while ("|-^".indexOf(next()) >= 0) {
                char sign = text.charAt(position++);
                List<Integer> right = term(depth);
                TreeSet<Integer> both = new TreeSet<>(left);
                both.retainAll(right);
                if (sign == '-') {
                    left.removeAll(both);
                } else {
                    left.addAll(right);
                    if (sign == '^') {
                        left.removeAll(both);
                    }
                }
            }
            return new ArrayList<>(left);
        }

        private List<Integer> term(int depth) throws Fault {
            List<Integer> left = factor(depth);
            while (next() == '&') {
                position++;
                left = intersect(left, factor(depth));
            }
            return left;
        }

        private List<Integer> factor(int depth) throws Fault {
            char letter = next();
            if (letter >= 'A' && letter <= 'F') {
                position++;
                return numbers(letter - 'A');
            }
            if (letter != '(' || depth == 8) {
                throw new Fault(position);
            }
            position++;
            List<Integer> inside = expression(depth + 1);
            if (next() != ')') {
                throw new Fault(position);
            }
            position++;
            return inside;
        }

        void expectEnd() throws Fault {
            next();
            if (position < text.length()) {
                throw new Fault(position);
            }
        }
    }
}
