import java.util.Arrays;

/**
 * A store for sorted lists of numbers in packed blocks. The words that the names here are taken from (base, gap,
 * width, exception, low part, fault ..) are explained in the document, under "Description".
 */
public final class PackedLists {
    public static final int NONE = -1, BAD = -2, STATE = -3, FULL = -4;

    private static final int LISTS = 6;
    private static final int MAX_NUMBERS = 200;
    private static final int MAX_VALUE = 999999;
    private static final int MAX_LENGTH = 64;
    private static final int MAX_WIDTH = 20;
    private static final int MAX_TEXT = 100;
    private static final int MAX_DEPTH = 8;
    private static final int MAX_DIGITS = 6;
    private static final int MAX_STATES = 8;
    private static final int MAX_CACHED = 4;

    private static final int CUT_LENGTH = 32;
    private static final int BLOCK_COST = 32;
    private static final int EXCEPTION_COST = 28;
    private static final int WORD_BITS = 32;
    private static final long WORD_MASK = 0xFFFFFFFFL;
    private static final int FAULTS = -2000;

    /** Numbers that block() takes as what, and the greatest ones that list(), block() and count() take. */
    private static final int ASK_EXCEPTIONS = 4, ASK_COST = 5;
    private static final int LAST_OF_LIST = 5, LAST_OF_BLOCK = 6, LAST_OF_COUNT = 9;

    private final CutList[] lists = new CutList[LISTS];
    private final History history = new History();
    private final Cache cache = new Cache();
    private final Row text = new Row(MAX_TEXT);
    private final BlockView view = new BlockView();
    private final Packer packer = new Packer();
    private final Galloper galloper = new Galloper();
    private final NumberReader numberReader = new NumberReader();
    private final ExpressionReader expressionReader = new ExpressionReader();
    /** Null as long as there is no result: objects that never see a query() need none of its rows. */
    private Joiner joiner;

    public PackedLists() {
        for (int list = 0; list < LISTS; list++) {
            lists[list] = new CutList();
        }
    }

    // ---- changing lists

    public int add(int list, int value) {
        if (!isList(list) || !isValue(value)) {
            return BAD;
        }
        if (lists[list].row.has(value)) {
            return STATE;
        }
        if (lists[list].row.size >= MAX_NUMBERS) {
            return FULL;
        }
        beginChange(list);
        return lists[list].insert(value);
    }

    public int remove(int list, int value) {
        if (!isList(list) || !isValue(value)) {
            return BAD;
        }
        if (!lists[list].row.has(value)) {
            return STATE;
        }
        beginChange(list);
        return lists[list].delete(value);
    }

    public int pack(int list, int length) {
        if (!isList(list) || !isPacking(length)) {
            return BAD;
        }
        beginChange(list);
        if (length == 0) {
            packer.cut(lists[list]);
        } else {
            lists[list].cutBy(length);
        }
        return sumOfBlocks(lists[list], ASK_COST);
    }

    public int load(int list) {
        if (!isList(list)) {
            return BAD;
        }
        int fault = numberReader.read(text);
        if (fault != NONE) {
            return FAULTS - fault;
        }
        replaceNumbers(list, numberReader.row);
        text.size = 0;
        return lists[list].row.size;
    }

    public int store(int list) {
        if (!isList(list)) {
            return BAD;
        }
        if (joiner == null) {
            return STATE;
        }
        if (joiner.result.size > MAX_NUMBERS) {
            return FULL;
        }
        replaceNumbers(list, joiner.result);
        return lists[list].row.size;
    }

    public int clear(int list) {
        if (!isList(list)) {
            return BAD;
        }
        int size = lists[list].row.size;
        beginChange(list);
        lists[list].makeEmpty();
        return size;
    }

    public int undo() {
        if (history.size == 0) {
            return STATE;
        }
        history.restoreLatest(lists);
        cache.forgetAll();
        return history.size;
    }

    // ---- text

    public int type(int letter) {
        if (letter < 0 || letter > 127) {
            return BAD;
        }
        if (text.size >= MAX_TEXT) {
            return FULL;
        }
        text.append(letter);
        return text.size;
    }

    public int erase() {
        int length = text.size;
        text.size = 0;
        return length;
    }

    // ---- blocks

    public int list(int list, int what) {
        if (!isList(list)) {
            return BAD;
        }
        CutList cut = lists[list];
        switch (what) {
            case 0:
                return cut.row.size;
            case 1:
                return cut.blocks;
            case 2:
                return sumOfBlocks(cut, ASK_COST);
            case 3:
                return sumOfBlocks(cut, ASK_EXCEPTIONS);
            case 4:
                return cut.row.get(0);
            case 5:
                return cut.row.get(cut.row.size - 1);
            default:
                return BAD;
        }
    }

    public int block(int list, int block, int what) {
        if (!isBlock(list, block)) {
            return BAD;
        }
        return measured(lists[list], block).property(what);
    }

    public long word(int list, int block, int k) {
        if (!isBlock(list, block)) {
            return BAD;
        }
        BlockView seen = measured(lists[list], block);
        return k >= 0 && k < seen.words() ? seen.wordAt(k) : BAD;
    }

    public int exception(int list, int block, int k, int what) {
        if (!isBlock(list, block) || k < 0 || what < 0 || what > 1) {
            return BAD;
        }
        BlockView seen = measured(lists[list], block);
        int before = 0;
        for (int index = 1; index < seen.length; index++) {
            int high = seen.highPart(index);
            if (high > 0 && before == k) {
                return what == 0 ? index : high;
            }
            if (high > 0) {
                before++;
            }
        }
        return BAD;
    }

    public int gaps(int list, int bits) {
        if (!isList(list) || bits < 0 || bits > MAX_WIDTH) {
            return BAD;
        }
        Row row = lists[list].row;
        int number = 0;
        for (int index = 1; index < row.size; index++) {
            if (bitsOf(row.gapBefore(index)) == bits) {
                number++;
            }
        }
        return number;
    }

    public int costBy(int list, int length) {
        if (!isList(list) || !isPacking(length)) {
            return BAD;
        }
        Row row = lists[list].row;
        if (length == 0) {
            return packer.leastCost(row);
        }
        int cost = 0;
        for (int start = 0; start < row.size; start += length) {
            view.measure(row, start, Math.min(start + length, row.size));
            cost += view.cost;
        }
        return cost;
    }

    public int part(int list, int first, int last, int what) {
        if (!isList(list) || first < 0 || last < first || last >= lists[list].row.size) {
            return BAD;
        }
        if (last - first >= MAX_LENGTH) {
            return BAD;
        }
        view.measure(lists[list].row, first, last + 1);
        switch (what) {
            case 0:
                return view.width;
            case 1:
                return view.cost;
            case 2:
                return view.exceptions;
            default:
                return BAD;
        }
    }

    // ---- finding

    public int at(int list, int index) {
        if (!isList(list) || index < 0 || index >= lists[list].row.size) {
            return BAD;
        }
        int number = lists[list].row.get(index);
        cache.look(list, lists[list].lastBlockUpTo(number));
        return number;
    }

    public int find(int list, int value, int what) {
        if (!isList(list) || !isValue(value) || what < 0 || what > 1) {
            return BAD;
        }
        int block = lists[list].lastBlockUpTo(value);
        if (block != NONE) {
            cache.look(list, block);
        }
        Row row = lists[list].row;
        int index = row.firstAtLeast(value);
        if (index >= row.size) {
            return NONE;
        }
        return what == 0 ? index : row.get(index);
    }

    public int cached(int list, int block) {
        if (!isBlock(list, block)) {
            return BAD;
        }
        return cache.placeOf(list, block) != NONE ? 1 : 0;
    }

    // ---- expressions

    public int query() {
        int fault = expressionReader.read(text);
        if (fault != NONE) {
            return FAULTS - fault;
        }
        if (joiner == null) {
            joiner = new Joiner();
        }
        joiner.carryOut(expressionReader.postfix, lists);
        return joiner.result.size;
    }

    public int result(int index) {
        if (index < 0) {
            return BAD;
        }
        if (joiner == null) {
            return STATE;
        }
        return joiner.result.get(index);
    }

    public int common(int first, int second, int what) {
        if (!isList(first) || !isList(second) || what < 0 || what > 1) {
            return BAD;
        }
        galloper.probes = 0;
        galloper.intersect(lists[first].row, lists[second].row);
        return what == 0 ? galloper.taken : galloper.probes;
    }

    // ---- numbers

    public int count(int what) {
        switch (what) {
            case 0:
            case 1:
            case 2:
                int sum = 0;
                for (int list = 0; list < LISTS; list++) {
                    sum += list(list, what);
                }
                return sum;
            case 3:
                return cache.size;
            case 4:
                return cache.hits;
            case 5:
                return cache.misses;
            case 6:
                return joiner == null ? NONE : joiner.result.size;
            case 7:
                return joiner == null ? NONE : joiner.galloper.probes;
            case 8:
                return history.size;
            case 9:
                return text.size;
            default:
                return BAD;
        }
    }

    public long digest() {
        long hash = 619;
        for (int what = 0; what <= LAST_OF_COUNT; what++) {
            hash = mix(hash, count(what));
        }
        for (int list = 0; list < LISTS; list++) {
            hash = mixBlocks(hash, list);
        }
        for (int list = 0; list < LISTS; list++) {
            hash = mixRow(hash, lists[list].row);
        }
        if (joiner != null) {
            hash = mixRow(hash, joiner.result);
        }
        return mixRow(hash, text);
    }

    private static long mix(long hash, long number) {
        return 31 * hash + number;
    }

    private static long mixRow(long hash, Row row) {
        long mixed = hash;
        for (int index = 0; index < row.size; index++) {
            mixed = mix(mixed, row.get(index));
        }
        return mixed;
    }

    private long mixBlocks(long hash, int list) {
        long mixed = hash;
        for (int what = 0; what <= LAST_OF_LIST; what++) {
            mixed = mix(mixed, list(list, what));
        }
        for (int block = 0; block < lists[list].blocks; block++) {
            mixed = mixBlock(mixed, measured(lists[list], block));
            mixed = mix(mixed, cached(list, block));
        }
        return mixed;
    }

    private static long mixBlock(long hash, BlockView seen) {
        long mixed = hash;
        for (int what = 0; what <= LAST_OF_BLOCK; what++) {
            mixed = mix(mixed, seen.property(what));
        }
        for (int k = 0; k < seen.words(); k++) {
            mixed = mix(mixed, seen.wordAt(k));
        }
        for (int index = 1; index < seen.length; index++) {
            int high = seen.highPart(index);
            if (high > 0) {
                mixed = mix(mix(mixed, index), high);
            }
        }
        return mixed;
    }

    // ---- what the calls above have in common

    private static boolean isList(int list) {
        return list >= 0 && list < LISTS;
    }

    private static boolean isValue(int value) {
        return value >= 0 && value <= MAX_VALUE;
    }

    private static boolean isPacking(int length) {
        return length >= 0 && length <= MAX_LENGTH;
    }

    private boolean isBlock(int list, int block) {
        return isList(list) && block >= 0 && block < lists[list].blocks;
    }

    private static int bitsOf(int gap) {
        int bits = 0;
        while (bits < MAX_WIDTH && gap >> bits > 0) {
            bits++;
        }
        return bits;
    }

    private void beginChange(int list) {
        history.record(list, lists[list]);
        cache.forget(list);
    }

    private void replaceNumbers(int list, Row row) {
        beginChange(list);
        lists[list].row.copyFrom(row);
        packer.cut(lists[list]);
    }

    private BlockView measured(CutList cut, int block) {
        view.measure(cut.row, cut.startOf(block), cut.startOf(block + 1));
        return view;
    }

    private int sumOfBlocks(CutList cut, int what) {
        int sum = 0;
        for (int block = 0; block < cut.blocks; block++) {
            sum += measured(cut, block).property(what);
        }
        return sum;
    }

    /** Numbers in room that is made once: those of a list or of a result, ascending, or the bytes of a text. */
    private static final class Row {
        final int[] numbers;
        int size;

        Row(int capacity) {
            numbers = new int[Math.max(0, capacity)];
        }

        void append(int number) {
            if (size < numbers.length) {
                numbers[size] = number;
                size++;
            }
        }

        /** NONE outside of the row: no row holds it. */
        int get(int index) {
            return index >= 0 && index < size ? numbers[index] : NONE;
        }

        void copyFrom(Row other) {
            size = Math.min(other.size, numbers.length);
            System.arraycopy(other.numbers, 0, numbers, 0, size);
        }

        /** Returns the size if all numbers are less. */
        int firstAtLeast(int value) {
            int low = 0;
            int high = size;
            while (low < high) {
                int middle = (low + high) / 2;
                if (get(middle) >= value) {
                    high = middle;
                } else {
                    low = middle + 1;
                }
            }
            return low;
        }

        boolean has(int value) {
            int index = firstAtLeast(value);
            return index < size && get(index) == value;
        }

        int insert(int value) {
            int index = firstAtLeast(value);
            if (size < numbers.length) {
                System.arraycopy(numbers, index, numbers, index + 1, size - index);
                numbers[index] = value;
                size++;
            }
            return index;
        }

        int delete(int value) {
            int index = firstAtLeast(value);
            if (index < size) {
                System.arraycopy(numbers, index + 1, numbers, index, size - index - 1);
                size--;
            }
            return index;
        }

        /** The first number has no gap. */
        int gapBefore(int index) {
            return index >= 1 && index < size ? numbers[index] - numbers[index - 1] - 1 : 0;
        }
    }

    /**
     * A list and where its blocks start. Widths and exceptions are not kept but measured when they are asked for,
     * so they can't disagree with the numbers.
     */
    private static final class CutList {
        final Row row = new Row(MAX_NUMBERS);
        final int[] starts = new int[MAX_NUMBERS];
        int blocks;

        /** Behind the last block the end of the list, so that each block ends where the next one starts. */
        int startOf(int block) {
            return block >= 0 && block < blocks ? starts[block] : row.size;
        }

        void makeEmpty() {
            row.size = 0;
            blocks = 0;
        }

        void copyFrom(CutList other) {
            row.copyFrom(other.row);
            blocks = other.blocks;
            System.arraycopy(other.starts, 0, starts, 0, blocks);
        }

        void startBlock(int start) {
            if (blocks < starts.length) {
                starts[blocks] = start;
                blocks++;
            }
        }

        void cutBy(int length) {
            blocks = 0;
            for (int start = 0; start < row.size; start += Math.max(1, length)) {
                startBlock(start);
            }
        }

        /** The last block whose base is at most the value, NONE if there is none. */
        int lastBlockUpTo(int value) {
            int low = NONE;
            int high = blocks;
            while (low + 1 < high) {
                int middle = (low + high) / 2;
                if (row.get(startOf(middle)) <= value) {
                    low = middle;
                } else {
                    high = middle;
                }
            }
            return low;
        }

        int insert(int value) {
            int block = Math.max(0, lastBlockUpTo(value));
            if (blocks == 0) {
                startBlock(0);
            }
            int index = row.insert(value);
            moveStarts(block + 1, 1);
            if (startOf(block + 1) - startOf(block) > MAX_LENGTH) {
                split(block, startOf(block) + CUT_LENGTH);
            }
            return index;
        }

        int delete(int value) {
            int block = lastBlockUpTo(value);
            int index = row.delete(value);
            if (block != NONE) {
                moveStarts(block + 1, -1);
                if (startOf(block + 1) == startOf(block)) {
                    dropBlock(block);
                }
            }
            return index;
        }

        private void moveStarts(int from, int by) {
            for (int block = from; block < blocks; block++) {
                starts[block] += by;
            }
        }

        private void split(int block, int start) {
            if (blocks < starts.length) {
                System.arraycopy(starts, block + 1, starts, block + 2, blocks - block - 1);
                starts[block + 1] = start;
                blocks++;
            }
        }

        private void dropBlock(int block) {
            System.arraycopy(starts, block + 1, starts, block, blocks - block - 1);
            blocks--;
        }
    }

    /** Successive numbers of a list seen as one block: its best width, and what follows from it. */
    private static final class BlockView {
        private final int[] gapsByBits = new int[MAX_WIDTH + 1];
        private Row row;
        private int start;
        int length;
        int width;
        int exceptions;
        int cost;

        /** The block is that of the indices from first to end - 1; what is seen holds until the row changes. */
        void measure(Row numbers, int first, int end) {
            row = numbers;
            start = first;
            length = end - first;
            Arrays.fill(gapsByBits, 0);
            int widest = 0;
            for (int index = 1; index < length; index++) {
                int bits = bitsOf(row.gapBefore(start + index));
                gapsByBits[bits]++;
                widest = Math.max(widest, bits);
            }
            chooseWidth(widest);
        }

        private void chooseWidth(int widest) {
            width = 0;
            exceptions = length - 1 - gapsByBits[0];
            cost = costWith(0, exceptions);
            int wider = exceptions;
            for (int next = 1; next <= widest; next++) {
                wider -= gapsByBits[next];
                int price = costWith(next, wider);
                if (price < cost) {
                    width = next;
                    exceptions = wider;
                    cost = price;
                }
            }
        }

        private int costWith(int someWidth, int wider) {
            return BLOCK_COST + someWidth * (length - 1) + EXCEPTION_COST * wider;
        }

        int property(int what) {
            switch (what) {
                case 0:
                    return start;
                case 1:
                    return length;
                case 2:
                    return row.get(start);
                case 3:
                    return width;
                case ASK_EXCEPTIONS:
                    return exceptions;
                case ASK_COST:
                    return cost;
                case 6:
                    return words();
                default:
                    return BAD;
            }
        }

        /** More than 0 for exceptions alone. */
        int highPart(int index) {
            return row.gapBefore(start + index) >> width;
        }

        int words() {
            return (width * (length - 1) + WORD_BITS - 1) / WORD_BITS;
        }

        long wordAt(int k) {
            if (width == 0) {
                return 0;
            }
            int from = WORD_BITS * k;
            long word = 0;
            for (int index = 1 + from / width; index < length; index++) {
                int shift = width * (index - 1) - from;
                if (shift >= WORD_BITS) {
                    break;
                }
                long low = row.gapBefore(start + index) & ((1 << width) - 1);
                word |= shift >= 0 ? low << shift : low >> -shift;
            }
            return word & WORD_MASK;
        }
    }

    /**
     * Packs as well as possible. From the last number to the first, it finds the best way to cut what begins there;
     * so what is best behind a block is known when the block is chosen, and of blocks that are equally good the
     * shorter one gives the lesser sequence of lengths.
     */
    private static final class Packer {
        /** A rank is a cost and, below it, a number of blocks: comparing ranks compares both in their order. */
        static final int COST = 256;

        private final int[] ranks = new int[MAX_NUMBERS + 1];
        private final int[] ends = new int[MAX_NUMBERS + 1];
        private final Window[] windows = new Window[MAX_WIDTH + 1];

        Packer() {
            for (int width = 0; width <= MAX_WIDTH; width++) {
                windows[width] = new Window(width);
            }
        }

        int leastCost(Row row) {
            plan(row);
            return ranks[0] / COST;
        }

        void cut(CutList list) {
            plan(list.row);
            list.blocks = 0;
            int next = 0;
            for (int index = 0; index < list.row.size; index++) {
                if (index == next) {
                    list.startBlock(index);
                    next = ends[index];
                }
            }
        }

        private void plan(Row row) {
            int widest = widestOf(row);
            for (int width = 0; width <= widest; width++) {
                windows[width].makeEmpty();
            }
            ranks[row.size] = 0;
            for (int start = row.size - 1; start >= 0; start--) {
                chooseEnd(start, widest);
                if (start > 0) {
                    passGap(bitsOf(row.gapBefore(start)), widest);
                }
            }
        }

        private static int widestOf(Row row) {
            int widest = 0;
            for (int index = 1; index < row.size; index++) {
                widest = Math.max(widest, bitsOf(row.gapBefore(index)));
            }
            return widest;
        }

        private void chooseEnd(int start, int widest) {
            int leastRank = Integer.MAX_VALUE;
            int leastEnd = start + 1;
            for (int width = 0; width <= widest; width++) {
                windows[width].admit(start + 1, ranks[start + 1]);
                int rank = windows[width].leastRank();
                int end = windows[width].endOfLeast();
                if (rank < leastRank || rank == leastRank && end < leastEnd) {
                    leastRank = rank;
                    leastEnd = end;
                }
            }
            ranks[start] = leastRank;
            ends[start] = leastEnd;
        }

        private void passGap(int bits, int widest) {
            for (int width = 0; width <= widest; width++) {
                windows[width].passGap(bits);
            }
        }
    }

    /**
     * The ends that a block of one width can have, seen from the number where it begins: a queue in which an end
     * stays only while it is near enough and better than all nearer ones, so the first in it is the best. This way,
     * a number costs few steps and not one for each length.
     */
    private static final class Window {
        private final int width;
        private final int[] ends = new int[MAX_LENGTH];
        /** Each less by the gaps that were passed before it came, so that it holds for every beginning. */
        private final int[] ranks = new int[MAX_LENGTH];
        private int first;
        private int size;
        private int passed;

        Window(int width) {
            this.width = width;
        }

        void makeEmpty() {
            first = 0;
            size = 0;
            passed = 0;
        }

        /** The rank is that of what follows the end, which is the one next to the number where blocks begin now. */
        void admit(int end, int rank) {
            int own = rank - Packer.COST * passed;
            if (size > 0 && ends[first] >= end + MAX_LENGTH) {
                first = slot(1);
                size--;
            }
            while (size > 0 && ranks[slot(size - 1)] >= own) {
                size--;
            }
            ends[slot(size)] = end;
            ranks[slot(size)] = own;
            size++;
        }

        int leastRank() {
            return ranks[first] + Packer.COST * (BLOCK_COST + passed) + 1;
        }

        int endOfLeast() {
            return ends[first];
        }

        void passGap(int bits) {
            passed += bits > width ? width + EXCEPTION_COST : width;
        }

        private int slot(int place) {
            return (first + place) % MAX_LENGTH;
        }
    }

    /** The latest states. As a change concerns one list, a state keeps that list alone. */
    private static final class History {
        private final int[] owners = new int[MAX_STATES];
        private final CutList[] states = new CutList[MAX_STATES];
        private int latest;
        int size;

        History() {
            for (int slot = 0; slot < MAX_STATES; slot++) {
                states[slot] = new CutList();
            }
        }

        void record(int list, CutList state) {
            latest = (latest + 1) % MAX_STATES;
            owners[latest] = list;
            states[latest].copyFrom(state);
            size = Math.min(size + 1, MAX_STATES);
        }

        void restoreLatest(CutList[] lists) {
            if (size > 0 && owners[latest] < lists.length) {
                lists[owners[latest]].copyFrom(states[latest]);
                latest = (latest + MAX_STATES - 1) % MAX_STATES;
                size--;
            }
        }
    }

    /** Which blocks are in the cache, the one with the latest look first. */
    private static final class Cache {
        private final int[] lists = new int[MAX_CACHED];
        private final int[] blocks = new int[MAX_CACHED];
        int size;
        int hits;
        int misses;

        int placeOf(int list, int block) {
            for (int place = 0; place < size; place++) {
                if (lists[place] == list && blocks[place] == block) {
                    return place;
                }
            }
            return NONE;
        }

        void look(int list, int block) {
            int place = placeOf(list, block);
            if (place != NONE) {
                hits++;
            } else {
                misses++;
                size = Math.min(size + 1, MAX_CACHED);
                place = size - 1;
            }
            System.arraycopy(lists, 0, lists, 1, place);
            System.arraycopy(blocks, 0, blocks, 1, place);
            lists[0] = list;
            blocks[0] = block;
        }

        void forget(int list) {
            int kept = 0;
            for (int place = 0; place < size; place++) {
                if (lists[place] != list) {
                    lists[kept] = lists[place];
                    blocks[kept] = blocks[place];
                    kept++;
                }
            }
            size = kept;
        }

        void forgetAll() {
            size = 0;
        }
    }

    /** Reads a text as numbers. */
    private static final class NumberReader {
        final Row row = new Row(MAX_NUMBERS);
        private Row text;
        private int position;
        private int number;

        /** Puts the numbers into the row, and returns the fault, NONE if there is none. */
        int read(Row source) {
            text = source;
            position = 0;
            row.size = 0;
            skipBlanks();
            if (position >= text.size) {
                return NONE;
            }
            int least = 0;
            for (int parts = 0; parts < MAX_TEXT; parts++) {
                int fault = readPart(least);
                if (fault != NONE) {
                    return fault;
                }
                if (position >= text.size) {
                    return NONE;
                }
                if (text.get(position) != ',') {
                    return position;
                }
                least = number + 1;
                stepOver();
            }
            return position;
        }

        /** Returns the fault. Whether the numbers are too many is known only where no "-" can follow any more. */
        private int readPart(int least) {
            int fault = readNumber(least);
            if (fault != NONE) {
                return fault;
            }
            int from = number;
            int behind = position;
            skipBlanks();
            if (text.get(position) == '-') {
                stepOver();
                fault = readNumber(from);
                if (fault != NONE) {
                    return fault;
                }
                behind = position;
                skipBlanks();
            }
            if (number - from >= MAX_NUMBERS - row.size) {
                return behind;
            }
            for (int value = from; value <= number; value++) {
                row.append(value);
            }
            return NONE;
        }

        private int readNumber(int least) {
            int start = position;
            number = 0;
            for (int digits = 0; digits < MAX_DIGITS && isDigit(text.get(position)); digits++) {
                number = 10 * number + text.get(position) - '0';
                position++;
            }
            return position == start || number < least ? start : NONE;
        }

        private static boolean isDigit(int letter) {
            return letter >= '0' && letter <= '9';
        }

        private void stepOver() {
            position++;
            skipBlanks();
        }

        private void skipBlanks() {
            while (position < text.size && text.get(position) == ' ') {
                position++;
            }
        }
    }

    /** Reads a text as an expression and puts it into postfix order, the order in which it is carried out. */
    private static final class ExpressionReader {
        final Row postfix = new Row(MAX_TEXT);
        /** The signs and open parentheses whose right side is still being read. */
        private final Row waiting = new Row(MAX_TEXT);
        private int depth;
        private boolean factorIsDue;

        /** Returns the fault, NONE if there is none. */
        int read(Row text) {
            postfix.size = 0;
            waiting.size = 0;
            depth = 0;
            factorIsDue = true;
            for (int index = 0; index < text.size; index++) {
                if (!take(text.get(index))) {
                    return index;
                }
            }
            if (factorIsDue || depth > 0) {
                return text.size;
            }
            releaseFrom(1);
            return NONE;
        }

        /** Returns whether the letter can stand here. */
        private boolean take(int letter) {
            if (letter == ' ') {
                return true;
            }
            return factorIsDue ? takeFactor(letter) : takeSign(letter);
        }

        private boolean takeFactor(int letter) {
            if (letter >= 'A' && letter < 'A' + LISTS) {
                postfix.append(letter);
                factorIsDue = false;
                return true;
            }
            if (letter == '(' && depth < MAX_DEPTH) {
                waiting.append(letter);
                depth++;
                return true;
            }
            return false;
        }

        private boolean takeSign(int letter) {
            if (letter == ')' && depth > 0) {
                releaseFrom(1);
                waiting.size--;
                depth--;
                return true;
            }
            if (strengthOf(letter) > 0) {
                releaseFrom(strengthOf(letter));
                waiting.append(letter);
                factorIsDue = true;
                return true;
            }
            return false;
        }

        /** Both sides are complete of the latest signs that bind at least so strongly. */
        private void releaseFrom(int strength) {
            while (waiting.size > 0 && strengthOf(waiting.get(waiting.size - 1)) >= strength) {
                postfix.append(waiting.get(waiting.size - 1));
                waiting.size--;
            }
        }

        private static int strengthOf(int letter) {
            switch (letter) {
                case '&':
                    return 2;
                case '|':
                case '-':
                case '^':
                    return 1;
                default:
                    return 0;
            }
        }
    }

    /**
     * Carries out expressions. Which numbers a side of a sign has depends only on the lists that a number is in, and
     * there are 64 sets of lists; so a side is a table of 64 bits, one for each set of lists, and only what is
     * intersected or asked for is made a row.
     */
    private static final class Joiner {
        private static final long[] TABLES = {
            0xAAAAAAAAAAAAAAAAL, 0xCCCCCCCCCCCCCCCCL, 0xF0F0F0F0F0F0F0F0L,
            0xFF00FF00FF00FF00L, 0xFFFF0000FFFF0000L, 0xFFFFFFFF00000000L,
        };

        final Galloper galloper = new Galloper();
        final Row result = new Row(LISTS * MAX_NUMBERS);
        private final Row all = new Row(LISTS * MAX_NUMBERS);
        /** For each number of all lists the set of the lists that it is in, a bit for each list. */
        private final int[] sets = new int[LISTS * MAX_NUMBERS];
        private final Row left = new Row(LISTS * MAX_NUMBERS);
        private final Row right = new Row(LISTS * MAX_NUMBERS);
        private final long[] sides = new long[MAX_TEXT];
        private final int[] cursors = new int[LISTS];

        void carryOut(Row postfix, CutList[] lists) {
            gatherAll(lists);
            galloper.probes = 0;
            int depth = 0;
            for (int index = 0; index < postfix.size; index++) {
                int letter = postfix.get(index);
                if (letter >= 'A' && letter < 'A' + LISTS) {
                    sides[depth] = TABLES[letter - 'A'];
                    depth++;
                } else if (depth > 1) {
                    depth--;
                    sides[depth - 1] = join(letter, sides[depth - 1], sides[depth]);
                }
            }
            makeRow(sides[0], result);
        }

        private long join(int sign, long first, long second) {
            switch (sign) {
                case '|':
                    return first | second;
                case '-':
                    return first & ~second;
                case '^':
                    return first ^ second;
                default:
                    makeRow(first, left);
                    makeRow(second, right);
                    galloper.intersect(left, right);
                    return first & second;
            }
        }

        private void makeRow(long table, Row row) {
            row.size = 0;
            for (int index = 0; index < all.size; index++) {
                if ((table >>> sets[index] & 1) == 1) {
                    row.append(all.get(index));
                }
            }
        }

        private void gatherAll(CutList[] lists) {
            Arrays.fill(cursors, 0);
            all.size = 0;
            for (int index = 0; index < sets.length; index++) {
                int least = leastAtCursors(lists);
                if (least > MAX_VALUE) {
                    break;
                }
                all.append(least);
                sets[index] = passCursors(lists, least);
            }
        }

        private int leastAtCursors(CutList[] lists) {
            int least = MAX_VALUE + 1;
            for (int list = 0; list < LISTS; list++) {
                if (cursors[list] < lists[list].row.size) {
                    least = Math.min(least, lists[list].row.get(cursors[list]));
                }
            }
            return least;
        }

        /** Returns the set of the lists that have the number. */
        private int passCursors(CutList[] lists, int number) {
            int set = 0;
            for (int list = 0; list < LISTS; list++) {
                if (lists[list].row.get(cursors[list]) == number) {
                    set |= 1 << list;
                    cursors[list]++;
                }
            }
            return set;
        }
    }

    /** Intersects rows and counts the indices that are probed, until somebody sets the number back. */
    private static final class Galloper {
        int taken;
        int probes;

        void intersect(Row first, Row second) {
            int i = 0;
            int j = 0;
            taken = 0;
            while (i < first.size && j < second.size) {
                int one = first.get(i);
                int other = second.get(j);
                if (one == other) {
                    taken++;
                    i++;
                    j++;
                } else if (one < other) {
                    i = Math.max(i + 1, gallop(first, i, other));
                } else {
                    j = Math.max(j + 1, gallop(second, j, one));
                }
            }
        }

        private int gallop(Row row, int from, int target) {
            if (reaches(row, from, target)) {
                return from;
            }
            int low = from;
            int high = row.size;
            for (int step = 1; from + step < row.size; step *= 2) {
                if (reaches(row, from + step, target)) {
                    high = from + step;
                    break;
                }
                low = from + step;
            }
            while (low + 1 < high) {
                int middle = (low + high) / 2;
                if (reaches(row, middle, target)) {
                    high = middle;
                } else {
                    low = middle;
                }
            }
            return high;
        }

        private boolean reaches(Row row, int index, int target) {
            probes++;
            return row.get(index) >= target;
        }
    }
}
