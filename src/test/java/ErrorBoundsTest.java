import java.util.ArrayList;
import java.util.List;
import java.util.function.Supplier;
import java.util.function.ToLongFunction;

/** The description of errors: what is refused, which error comes first, and that nothing changes by it. */
public final class ErrorBoundsTest {
    private static final int NONE = PackedLists.NONE, BAD = PackedLists.BAD, STATE = PackedLists.STATE,
            FULL = PackedLists.FULL;
    private static final int LEAST = Integer.MIN_VALUE, GREATEST = Integer.MAX_VALUE;
    private static final Sentences DUE = new Sentences("ErrorBoundsTest");

    private record Call(String name, long answer, ToLongFunction<PackedLists> call) {
    }

    private interface Asked {
        long answer(PackedLists x, int argument);
    }

    public static void main(String[] args) {
        argumentsOutOfRange();
        argumentsInRange();
        rangesOfArguments();
        rangesOfKinds();
        notPossibleAtPresent();
        limits();
        theFirstErrorCounts();
        errorsChangeNothing();
        noneIsNoError();
        divisionsRoundDown();
        DUE.finish();
    }

    // ---- objects that errors are tried on

    /**
     * Blocks: list 0 has four of 50 numbers, list 1 three of one, list 2 three of four (the last one with a word and
     * an exception), list 3 one. The history and the cache are full, the result has more than 200 numbers, and the
     * text has a fault as whatever it is read.
     */
    private static PackedLists busy() {
        PackedLists x = new PackedLists();
        Texts.load(x, 0, "0-199");
        x.pack(0, 50);
        Texts.load(x, 1, "5,9,1000");
        x.pack(1, 1);
        Texts.load(x, 2, "300-308,320,330,999999");
        x.pack(2, 4);
        x.add(3, 7);
        x.add(3, 8);
        x.remove(3, 8);
        x.at(0, 0);
        x.at(0, 199);
        x.at(1, 0);
        x.at(1, 2);
        x.at(0, 1);
        Texts.query(x, "A|C");
        return Texts.type(x, "1,1");
    }

    private static PackedLists withFullText() {
        return Texts.type(busy(), "A".repeat(100));
    }

    /** All that can be seen of an object, the order of looks and the states of the history too. */
    private static List<Long> traceOf(PackedLists x) {
        List<Long> trace = new ArrayList<>();
        trace.add(x.digest());
        int[][] looks = {{2, 0}, {2, 4}, {1, 1}, {2, 8}, {3, 0}};
        for (int[] look : looks) {
            trace.add((long) x.at(look[0], look[1]));
            trace.add(x.digest());
        }
        trace.add((long) x.query());
        trace.add((long) x.load(5));
        trace.add((long) x.store(5));
        trace.add((long) x.erase());
        for (int times = 0; times < 10; times++) {
            trace.add((long) x.undo());
            trace.add(x.digest());
        }
        return trace;
    }

    // ---- calls that are refused

    private static List<Call> badCalls() {
        List<Call> calls = new ArrayList<>();
        badLists(calls);
        badValues(calls);
        badKinds(calls);
        badPlaces(calls);
        return calls;
    }

    private static void bad(List<Call> calls, String name, int argument, ToLongFunction<PackedLists> call) {
        calls.add(new Call(name + " with " + argument, BAD, call));
    }

    private static void badLists(List<Call> calls) {
        for (int list : new int[] {LEAST, -1, 6, GREATEST}) {
            bad(calls, "add(list)", list, x -> x.add(list, 3));
            bad(calls, "remove(list)", list, x -> x.remove(list, 5));
            bad(calls, "pack(list)", list, x -> x.pack(list, 0));
            bad(calls, "load(list)", list, x -> x.load(list));
            bad(calls, "store(list)", list, x -> x.store(list));
            bad(calls, "clear(list)", list, x -> x.clear(list));
            bad(calls, "list(list)", list, x -> x.list(list, 0));
            bad(calls, "block(list)", list, x -> x.block(list, 0, 0));
            bad(calls, "word(list)", list, x -> x.word(list, 0, 0));
            bad(calls, "exception(list)", list, x -> x.exception(list, 0, 0, 0));
            bad(calls, "gaps(list)", list, x -> x.gaps(list, 0));
            bad(calls, "costBy(list)", list, x -> x.costBy(list, 0));
            bad(calls, "part(list)", list, x -> x.part(list, 0, 0, 0));
            bad(calls, "at(list)", list, x -> x.at(list, 0));
            bad(calls, "find(list)", list, x -> x.find(list, 5, 0));
            bad(calls, "cached(list)", list, x -> x.cached(list, 0));
            bad(calls, "common(first)", list, x -> x.common(list, 0, 0));
            bad(calls, "common(second)", list, x -> x.common(0, list, 0));
        }
    }

    private static void badValues(List<Call> calls) {
        for (int value : new int[] {LEAST, -1, 1000000, GREATEST}) {
            bad(calls, "add(value)", value, x -> x.add(1, value));
            bad(calls, "remove(value)", value, x -> x.remove(1, value));
            bad(calls, "find(value)", value, x -> x.find(1, value, 0));
        }
        for (int length : new int[] {LEAST, -1, 65, GREATEST}) {
            bad(calls, "pack(length)", length, x -> x.pack(1, length));
            bad(calls, "costBy(length)", length, x -> x.costBy(1, length));
        }
        for (int letter : new int[] {LEAST, -1, 128, 256 + 'A', GREATEST}) {
            bad(calls, "type(letter)", letter, x -> x.type(letter));
        }
        for (int bits : new int[] {LEAST, -1, 21, GREATEST}) {
            bad(calls, "gaps(bits)", bits, x -> x.gaps(1, bits));
        }
        for (int index : new int[] {LEAST, -2, -1}) {
            bad(calls, "result(index)", index, x -> x.result(index));
        }
    }

    private static void badKinds(List<Call> calls) {
        badKind(calls, "list(what)", 6, (x, what) -> x.list(1, what));
        badKind(calls, "block(what)", 7, (x, what) -> x.block(1, 0, what));
        badKind(calls, "exception(what)", 2, (x, what) -> x.exception(2, 2, 0, what));
        badKind(calls, "part(what)", 3, (x, what) -> x.part(1, 0, 1, what));
        badKind(calls, "find(what)", 2, (x, what) -> x.find(1, 5, what));
        badKind(calls, "common(what)", 2, (x, what) -> x.common(0, 1, what));
        badKind(calls, "count(what)", 10, (x, what) -> x.count(what));
    }

    private static void badKind(List<Call> calls, String name, int tooGreat, Asked asked) {
        for (int what : new int[] {LEAST, -1, tooGreat, GREATEST}) {
            bad(calls, name, what, x -> asked.answer(x, what));
        }
    }

    private static void badPlaces(List<Call> calls) {
        for (int block : new int[] {LEAST, -1, 3, GREATEST}) {
            bad(calls, "block(block)", block, x -> x.block(2, block, 0));
            bad(calls, "word(block)", block, x -> x.word(2, block, 0));
            bad(calls, "exception(block)", block, x -> x.exception(2, block, 0, 0));
            bad(calls, "cached(block)", block, x -> x.cached(2, block));
        }
        for (int index : new int[] {LEAST, -1, 200, GREATEST}) {
            bad(calls, "at(index)", index, x -> x.at(0, index));
            bad(calls, "part(first)", index, x -> x.part(0, index, index, 0));
            bad(calls, "part(last)", index, x -> x.part(0, 190, index, 0));
            bad(calls, "word(k)", index, x -> x.word(2, 2, index));
            bad(calls, "exception(k)", index, x -> x.exception(2, 2, index, 0));
        }
        bad(calls, "part(last) before first", 9, x -> x.part(0, 10, 9, 0));
        bad(calls, "part(last) behind first + 63", 74, x -> x.part(0, 10, 74, 0));
        bad(calls, "at(index) of an empty list", 0, x -> x.at(4, 0));
        bad(calls, "block(block) of an empty list", 0, x -> x.block(4, 0, 0));
        bad(calls, "word(block) of an empty list", 0, x -> x.word(4, 0, 0));
        bad(calls, "exception(block) of an empty list", 0, x -> x.exception(4, 0, 0, 0));
        bad(calls, "cached(block) of an empty list", 0, x -> x.cached(4, 0));
        bad(calls, "part(first) of an empty list", 0, x -> x.part(4, 0, 0, 0));
        bad(calls, "word(k) of a block without words", 0, x -> x.word(0, 0, 0));
        bad(calls, "exception(k) of a block without exceptions", 0, x -> x.exception(0, 0, 0, 0));
    }

    /** Errors that are possible when the object is busy, but for BAD. */
    private static List<Call> refusedWhenBusy() {
        return List.of(
                new Call("add() of a number that is there", STATE, x -> x.add(1, 9)),
                new Call("add() to 200 numbers", FULL, x -> x.add(0, 200)),
                new Call("remove() of a number that is not there", STATE, x -> x.remove(1, 8)),
                new Call("remove() from an empty list", STATE, x -> x.remove(4, 0)),
                new Call("load() of a text with a fault", -2002, x -> x.load(1)),
                new Call("store() of more than 200 numbers", FULL, x -> x.store(4)),
                new Call("query() of a text with a fault", -2000, x -> x.query()));
    }

    private static List<Call> refusedAtFirst() {
        return List.of(
                new Call("undo() without states", STATE, x -> x.undo()),
                new Call("store() without a result", STATE, x -> x.store(0)),
                new Call("result() without a result", STATE, x -> x.result(0)),
                new Call("remove() from an empty list", STATE, x -> x.remove(0, 0)),
                new Call("query() of an empty text", -2000, x -> x.query()));
    }

    // ---- the sentences

    private static void argumentsOutOfRange() {
        DUE.of("BAD: an argument is out of range, or names something that does not exist.");
        PackedLists x = busy();
        for (Call call : badCalls()) {
            DUE.is(call.name, call.call.applyAsLong(x), call.answer);
        }
    }

    /** The least and the greatest arguments in range are refused by no call. */
    private static void argumentsInRange() {
        PackedLists x = busy();
        for (int list : new int[] {0, 5}) {
            DUE.holds("list(" + list + ", 0)", x.list(list, 0) >= 0);
            DUE.holds("list(" + list + ", 5)", x.list(list, 5) >= NONE);
            DUE.holds("gaps(" + list + ", 0)", x.gaps(list, 0) >= 0);
            DUE.is("gaps(" + list + ", 20)", x.gaps(list, 20), 0);
            DUE.holds("costBy(" + list + ", 0)", x.costBy(list, 0) >= 0);
            DUE.holds("costBy(" + list + ", 64)", x.costBy(list, 64) >= 0);
            DUE.holds("find(" + list + ", 0, 0)", x.find(list, 0, 0) >= NONE);
            DUE.is("find(" + list + ", 999999, 1)", x.find(list, 999999, 1), NONE);
            DUE.is("common(" + list + ", 5, 0)", x.common(list, 5, 0), 0);
            DUE.is("common(5, " + list + ", 1)", x.common(5, list, 1), 0);
            DUE.holds("pack(" + list + ", 0)", x.pack(list, 0) >= 0);
            DUE.holds("pack(" + list + ", 64)", x.pack(list, 64) >= 0);
            DUE.holds("clear(" + list + ")", x.clear(list) >= 0);
            DUE.is("add(" + list + ", 999999)", x.add(list, 999999), 0);
            DUE.is("add(" + list + ", 0)", x.add(list, 0), 0);
            DUE.is("cached(" + list + ", 0)", x.cached(list, 0), 0);
            DUE.is("remove(" + list + ", 999999)", x.remove(list, 999999), 1);
            DUE.is("remove(" + list + ", 0)", x.remove(list, 0), 0);
        }
        DUE.is("the last block", x.block(2, 2, 6), 1);
        DUE.is("the last word: 11, 9, and the low part 4", x.word(2, 2, 0), 11 + 16 * 9 + 256 * 4);
        DUE.is("the last exception", x.exception(2, 2, 0, 1), 999668 / 16);
        DUE.is("the last index", x.at(2, 11), 999999);
        DUE.is("the last number as a part", x.part(2, 11, 11, 2), 0);
        DUE.holds("count(0) and count(9)", x.count(0) > 0 && x.count(9) == 3);
        DUE.is("type(0)", x.type(0), 4);
        DUE.is("type(127)", x.type(127), 5);
    }

    /** Refused are just the arguments outside of the range; tried are all near its ends, and the farthest ones. */
    private static void range(String line, String call, int least, int greatest, Asked asked) {
        DUE.of(line);
        for (int off = -4; off <= 4; off++) {
            for (int argument : new int[] {least + off, greatest + off}) {
                DUE.is(call + " with " + argument + " is refused", asked.answer(busy(), argument) == BAD ? 1 : 0,
                        argument < least || argument > greatest ? 1 : 0);
            }
        }
        for (int argument : new int[] {LEAST, LEAST + 1, GREATEST - 1, GREATEST}) {
            DUE.is(call + " with " + argument, asked.answer(busy(), argument), BAD);
        }
    }

    private static void rangesOfArguments() {
        range("`value`: 0 to 999999", "add()", 0, 999999, (x, value) -> x.add(4, value));
        range("`value`: 0 to 999999", "remove()", 0, 999999, (x, value) -> x.remove(4, value));
        range("`value`: 0 to 999999", "find()", 0, 999999, (x, value) -> x.find(0, value, 0));
        range("`length`: 0 to pack it as well as possible", "pack()", 0, 64, (x, length) -> x.pack(0, length));
        range("`length`: 0, or 1 to 64, as for pack()", "costBy()", 0, 64, (x, length) -> x.costBy(0, length));
        range("`letter`: 0 to 127", "type()", 0, 127, (x, letter) -> x.type(letter));
        range("`bits`: 0 to 20", "gaps()", 0, 20, (x, bits) -> x.gaps(0, bits));
        range("`block`: the number of the block", "block()", 0, 3, (x, block) -> x.block(0, block, 0));
        range("`block`: the number of the block", "cached()", 0, 3, (x, block) -> x.cached(0, block));
        range("`first`: the index of its first number", "part()", 0, 199, (x, first) -> x.part(0, first, first, 0));
        range("`last`: the index of its last number, from first to first + 63", "part()", 100, 163,
                (x, last) -> x.part(0, 100, last, 0));
        range("`index`: its index", "at()", 0, 199, (x, index) -> x.at(0, index));
        range("`first`: the first list", "common()", 0, 5, (x, list) -> x.common(list, 0, 0));
        range("`second`: the second list, perhaps the same", "common()", 0, 5, (x, list) -> x.common(0, list, 0));
    }

    private static void rangesOfKinds() {
        range("`what`: 0: how many numbers it has;", "list()", 0, 5, (x, what) -> x.list(0, what));
        range("`what`: 0: the index of its first number;", "block()", 0, 6, (x, what) -> x.block(0, 0, what));
        range("`what`: 0: the index of its number in the block; 1: its high part", "exception()", 0, 1,
                (x, what) -> x.exception(2, 2, 0, what));
        range("`what`: 0: its best width; 1: its cost with this width; 2: its exceptions with this width", "part()",
                0, 2, (x, what) -> x.part(0, 0, 9, what));
        range("`what`: 0: its index; 1: the number", "find()", 0, 1, (x, what) -> x.find(0, 100, what));
        range("`what`: 0: how many numbers they have in common; 1: how many indices are probed", "common()", 0, 1,
                (x, what) -> x.common(0, 1, what));
        range("`what`: 0: how many numbers all lists together have;", "count()", 0, 9, (x, what) -> x.count(what));
    }

    private static void notPossibleAtPresent() {
        DUE.of("STATE: the call is not possible at present, as described.");
        for (Call call : refusedAtFirst()) {
            DUE.is(call.name, call.call.applyAsLong(new PackedLists()), call.answer);
        }
        PackedLists x = new PackedLists();
        x.add(0, 4);
        Texts.query(x, "A");
        DUE.is("undo() is possible behind a change", x.undo(), 0);
        DUE.is("store() is possible behind a query()", x.store(0), 1);
        DUE.is("result() is possible behind a query()", x.result(0), 4);
        DUE.is("remove() is possible behind store()", x.remove(0, 4), 0);
        DUE.is("add() is possible behind remove()", x.add(0, 4), 0);
    }

    private static void limits() {
        DUE.of("FULL: a limit would be exceeded.");
        PackedLists x = busy();
        for (Call call : refusedWhenBusy()) {
            DUE.is(call.name, call.call.applyAsLong(x), call.answer);
        }
        DUE.is("type() of a 101st byte", withFullText().type('A'), FULL);
    }

    private static void theFirstErrorCounts() {
        DUE.of("If several of them apply to a call, the one that comes first in the description of the result is "
                + "returned.");
        PackedLists x = withFullText();
        DUE.is("add(): BAD before STATE and FULL", x.add(6, 9), BAD);
        DUE.is("add(): BAD before FULL", x.add(0, 1000000), BAD);
        DUE.is("add(): STATE before FULL", x.add(0, 199), STATE);
        DUE.is("add(): FULL at last", x.add(0, 200), FULL);
        DUE.is("remove(): BAD before STATE", x.remove(4, -1), BAD);
        DUE.is("load(): BAD before a fault", x.load(6), BAD);
        DUE.is("store(): BAD before FULL", x.store(-1), BAD);
        DUE.is("type(): BAD before FULL", x.type(128), BAD);
        DUE.is("type(): FULL at last", x.type(127), FULL);
        DUE.is("find(): BAD before NONE", x.find(4, 0, 2), BAD);
        DUE.is("find(): BAD before NONE, by its value", x.find(0, 1000000, 0), BAD);
        PackedLists y = new PackedLists();
        DUE.is("store(): BAD before STATE", y.store(6), BAD);
        DUE.is("result(): BAD before STATE", y.result(-1), BAD);
        DUE.is("result(): STATE before NONE", y.result(GREATEST), STATE);
        Texts.query(y, "A");
        DUE.is("result(): BAD before NONE", y.result(-1), BAD);
    }

    private static void errorsChangeNothing() {
        DUE.of("A call that returns an error changes nothing.");
        changesNothing(badCalls(), ErrorBoundsTest::busy);
        changesNothing(refusedWhenBusy(), ErrorBoundsTest::busy);
        changesNothing(refusedAtFirst(), PackedLists::new);
        changesNothing(List.of(new Call("type() of a 101st byte", FULL, x -> x.type('A'))),
                ErrorBoundsTest::withFullText);
        DUE.of("Results of -2000 and less, the faults of texts, are errors, too.");
        for (String text : new String[] {"1-201", "5-4", "1,2,", "A&", "((((((((((A", "1 2"}) {
            Call load = new Call("load() of " + text, 0, x -> x.load(1));
            Call query = new Call("query() of " + text, 0, x -> x.query());
            for (Call call : List.of(load, query)) {
                PackedLists x = Texts.type(busy(), text);
                DUE.holds(call.name + " is an error", call.call.applyAsLong(x) <= -2000);
                DUE.holds(call.name + " changes nothing", traceOf(x).equals(traceOf(Texts.type(busy(), text))));
            }
        }
    }

    private static void changesNothing(List<Call> calls, Supplier<PackedLists> maker) {
        List<Long> untouched = traceOf(maker.get());
        for (Call call : calls) {
            PackedLists x = maker.get();
            DUE.is(call.name, call.call.applyAsLong(x), call.answer);
            DUE.holds(call.name + " changes nothing", traceOf(x).equals(untouched));
        }
    }

    private static void noneIsNoError() {
        DUE.of("NONE is not an error; it means that there is no such thing, and is returned only if no error applies.");
        PackedLists x = busy();
        int misses = x.count(5);
        DUE.is("find() behind all numbers", x.find(3, 8, 0), NONE);
        DUE.is("it has looked at a block", x.count(5), misses + 1);
        DUE.is("the block is in the cache", x.cached(3, 0), 1);
        DUE.is("the least of an empty list", x.list(4, 4), NONE);
        DUE.is("the greatest of an empty list", x.list(4, 5), NONE);
        DUE.is("result() behind its end", x.result(212), NONE);
        DUE.is("result() before its end", x.result(211), 999999);
        PackedLists y = new PackedLists();
        DUE.is("numbers of no result", y.count(6), NONE);
        DUE.is("probes of no result", y.count(7), NONE);
    }

    private static void divisionsRoundDown() {
        DUE.of("Divisions round down.");
        PackedLists x = new PackedLists();
        Texts.load(x, 0, "0-30,38");
        DUE.is("the high part of 7 by 1", x.exception(0, 0, 0, 1), 7);
        Texts.load(x, 0, "0,2,4,6,8,10,12,14,16,18,20,22,24,26,28,30,32,34,36,38,39,135");
        x.pack(0, 64);
        DUE.is("width", x.block(0, 0, 3), 1);
        DUE.is("the high part of 95 by 2", x.exception(0, 0, 0, 1), 47);
    }
}
