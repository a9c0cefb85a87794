import java.util.List;
import java.util.Random;

/** Long runs of calls, always the same ones, each answer compared with that of NaiveLists. */
public final class ModelTest {
    private static final int RUNS = 900;
    /** A step can take some hundred calls more, and what comes behind call 512 is free. */
    private static final int CALLS = 390;
    private static final int MOST_CALLS = 512;
    private static final int[] EDGES = {
        Integer.MIN_VALUE, -2, -1, 0, 1, 2, 5, 6, 20, 21, 63, 64, 65, 127, 128, 199, 200, 999999, 1000000,
        Integer.MAX_VALUE - 1, Integer.MAX_VALUE,
    };

    private final Due due = new Due("ModelTest");
    private final Random random;
    private final int run;
    private final PackedLists tried = new PackedLists();
    private final NaiveLists naive = new NaiveLists();
    private final int range;
    private final int lists;
    private int calls;

    private ModelTest(int run) {
        this.run = run;
        random = new Random(run);
        range = new int[] {40, 300, 3000, 100000, 1000000}[random.nextInt(5)];
        lists = 1 + random.nextInt(6);
    }

    public static void main(String[] args) {
        Due all = new Due("ModelTest");
        for (int run = 0; run < RUNS && all.wrong() < 5; run++) {
            all.is("run " + run, new ModelTest(run).wrongAnswers(), 0);
        }
        all.finish();
    }

    private int wrongAnswers() {
        while (calls < CALLS && due.wrong() == 0) {
            step();
        }
        same("digest()", tried.digest(), naive.digest());
        return due.wrong();
    }

    private void same(String call, long got, long want) {
        calls++;
        if (calls > MOST_CALLS) {
            return;
        }
        due.is("run " + run + ", call " + calls + ": " + call, got, want);
    }

    private void step() {
        int kind = random.nextInt(100);
        if (kind < 14) {
            add(someList(), someValue());
        } else if (kind < 22) {
            remove();
        } else if (kind < 26) {
            pack();
        } else if (kind < 34) {
            loadText();
        } else if (kind < 42) {
            queryText();
        } else if (kind < 45) {
            store();
        } else if (kind < 47) {
            clearOrUndo();
        } else if (kind < 60) {
            blocks();
        } else if (kind < 67) {
            costs();
        } else if (kind < 85) {
            finding();
        } else if (kind < 92) {
            counting();
        } else if (kind < 96) {
            addMany();
        } else if (kind < 98) {
            oddText();
        } else {
            same("digest()", tried.digest(), naive.digest());
        }
    }

    // ---- arguments, seldom out of range

    private int edgeOr(int usual) {
        return random.nextInt(25) == 0 ? EDGES[random.nextInt(EDGES.length)] : usual;
    }

    private int someList() {
        return edgeOr(random.nextInt(lists));
    }

    private int someValue() {
        return edgeOr(random.nextInt(range));
    }

    private int someBlock(int list) {
        int blocks = list >= 0 && list < 6 ? naive.list(list, 1) : 1;
        return edgeOr(random.nextInt(Math.max(1, blocks)));
    }

    private int someIndex(int list) {
        int size = list >= 0 && list < 6 ? naive.list(list, 0) : 1;
        return edgeOr(random.nextInt(Math.max(1, size)));
    }

    private int someWhat(int most) {
        return edgeOr(random.nextInt(most + 1));
    }

    private int someLength() {
        return edgeOr(random.nextBoolean() ? 0 : 1 + random.nextInt(64));
    }

    // ---- calls

    private void add(int list, int value) {
        same("add(" + list + ", " + value + ")", tried.add(list, value), naive.add(list, value));
    }

    private void addMany() {
        int list = random.nextInt(lists);
        int value = random.nextInt(range);
        int step = 1 + random.nextInt(3);
        for (int times = random.nextInt(40); times > 0; times--) {
            add(list, value);
            value += step;
        }
    }

    private void remove() {
        int list = someList();
        int value = someValue();
        if (list >= 0 && list < 6 && naive.list(list, 0) > 0 && random.nextInt(8) > 0) {
            List<Integer> numbers = naive.numbers(list);
            value = numbers.get(random.nextInt(numbers.size()));
        }
        same("remove(" + list + ", " + value + ")", tried.remove(list, value), naive.remove(list, value));
    }

    private void pack() {
        int list = someList();
        int length = someLength();
        same("pack(" + list + ", " + length + ")", tried.pack(list, length), naive.pack(list, length));
    }

    private void store() {
        int list = someList();
        same("store(" + list + ")", tried.store(list), naive.store(list));
    }

    private void clearOrUndo() {
        if (random.nextInt(3) == 0) {
            int list = someList();
            same("clear(" + list + ")", tried.clear(list), naive.clear(list));
            return;
        }
        for (int times = random.nextInt(11); times > 0; times--) {
            same("undo()", tried.undo(), naive.undo());
        }
    }

    private void blocks() {
        int list = someList();
        int block = someBlock(list);
        int what = someWhat(6);
        int k = edgeOr(random.nextInt(6));
        int one = someWhat(1);
        String where = list + ", " + block + ", ";
        same("list(" + list + ", " + what + ")", tried.list(list, what), naive.list(list, what));
        same("block(" + where + what + ")", tried.block(list, block, what), naive.block(list, block, what));
        same("word(" + where + k + ")", tried.word(list, block, k), naive.word(list, block, k));
        same("exception(" + where + k + ", " + one + ")",
                tried.exception(list, block, k, one), naive.exception(list, block, k, one));
    }

    private void costs() {
        int list = someList();
        int bits = edgeOr(random.nextInt(21));
        int length = someLength();
        int first = someIndex(list);
        int last = random.nextInt(4) == 0 ? someIndex(list) : first + edgeOr(random.nextInt(66));
        int what = someWhat(2);
        same("gaps(" + list + ", " + bits + ")", tried.gaps(list, bits), naive.gaps(list, bits));
        same("costBy(" + list + ", " + length + ")", tried.costBy(list, length), naive.costBy(list, length));
        same("part(" + list + ", " + first + ", " + last + ", " + what + ")",
                tried.part(list, first, last, what), naive.part(list, first, last, what));
    }

    private void finding() {
        int list = someList();
        int index = someIndex(list);
        int value = someValue();
        int what = someWhat(1);
        int block = someBlock(list);
        same("at(" + list + ", " + index + ")", tried.at(list, index), naive.at(list, index));
        same("find(" + list + ", " + value + ", " + what + ")",
                tried.find(list, value, what), naive.find(list, value, what));
        same("cached(" + list + ", " + block + ")", tried.cached(list, block), naive.cached(list, block));
    }

    private void counting() {
        int what = someWhat(9);
        int first = someList();
        int second = someList();
        int one = someWhat(1);
        int index = edgeOr(random.nextInt(30));
        same("count(" + what + ")", tried.count(what), naive.count(what));
        same("common(" + first + ", " + second + ", " + one + ")",
                tried.common(first, second, one), naive.common(first, second, one));
        same("result(" + index + ")", tried.result(index), naive.result(index));
    }

    // ---- texts

    private void typeAll(String text) {
        for (int index = 0; index < text.length(); index++) {
            same("type(" + (int) text.charAt(index) + ")",
                    tried.type(text.charAt(index)), naive.type(text.charAt(index)));
        }
    }

    private void erase() {
        same("erase()", tried.erase(), naive.erase());
    }

    private void loadText() {
        erase();
        typeAll(spoilt(numbers()));
        int list = someList();
        same("load(" + list + ")", tried.load(list), naive.load(list));
        if (random.nextInt(6) == 0) {
            same("query()", tried.query(), naive.query());
        }
    }

    private void queryText() {
        erase();
        typeAll(spoilt(expression(random.nextInt(10) == 0 ? 9 : 3)));
        same("query()", tried.query(), naive.query());
        if (random.nextInt(6) == 0) {
            same("load(0)", tried.load(0), naive.load(0));
        }
    }

    private void oddText() {
        for (int times = random.nextInt(12); times > 0; times--) {
            int letter = edgeOr(random.nextInt(128));
            same("type(" + letter + ")", tried.type(letter), naive.type(letter));
        }
    }

    private String numbers() {
        StringBuilder text = new StringBuilder();
        int next = random.nextInt(range);
        int parts = random.nextInt(9);
        int most = random.nextBoolean() ? 12 : 70;
        for (int part = 0; part < parts && next <= 999999; part++) {
            text.append(part == 0 ? "" : ",").append(blanks()).append(number(next)).append(blanks());
            if (random.nextInt(3) > 0) {
                next = Math.min(999999, next + random.nextInt(most));
                text.append("-").append(blanks()).append(number(next)).append(blanks());
            }
            next += 1 + random.nextInt(Math.max(1, range / 8));
        }
        return text.toString();
    }

    private String number(int number) {
        return random.nextInt(10) == 0 ? String.format("%06d", number) : String.valueOf(number);
    }

    private String blanks() {
        return random.nextInt(12) == 0 ? " " : "";
    }

    private String expression(int depth) {
        StringBuilder text = new StringBuilder();
        for (int factors = depth == 9 ? 1 : 1 + random.nextInt(3); factors > 0; factors--) {
            boolean nested = depth > 0 && (depth > 4 ? random.nextInt(12) > 0 : random.nextInt(4) == 0);
            text.append(blanks());
            text.append(nested ? "(" + expression(depth - 1) + ")" : String.valueOf((char) ('A' + letter())));
            text.append(blanks());
            text.append(factors == 1 ? "" : String.valueOf("|-^&&&".charAt(random.nextInt(6))));
        }
        return text.toString();
    }

    private int letter() {
        return random.nextInt(5) == 0 ? random.nextInt(6) : random.nextInt(lists);
    }

    /** Two texts in three stay as they are; the others lose, gain or change a letter. */
    private String spoilt(String text) {
        if (random.nextInt(3) > 0) {
            return text;
        }
        StringBuilder other = new StringBuilder(text);
        int place = random.nextInt(text.length() + 1);
        char letter = "0123456789,- ABFG()&|^x".charAt(random.nextInt(23));
        int kind = random.nextInt(3);
        if (kind == 0 || place == text.length()) {
            other.insert(place, letter);
        } else if (kind == 1) {
            other.deleteCharAt(place);
        } else {
            other.setCharAt(place, letter);
        }
        return other.toString();
    }
}
