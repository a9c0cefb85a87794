/** Promises 1 to 8: a new object, and the calls that change lists. */
public final class ChangingTest {
    private static final int NONE = PackedLists.NONE, BAD = PackedLists.BAD, STATE = PackedLists.STATE,
            FULL = PackedLists.FULL;
    private static final Due DUE = new Due("ChangingTest");

    public static void main(String[] args) {
        promise1NewObject();
        promise2AddAnswers();
        promise2AddChoosesTheBlock();
        promise2AddCutsLongBlocks();
        promise3Remove();
        promise3RemoveKeepsOtherBlocks();
        promise3RemoveFromFullLists();
        promise4PackByLength();
        promise4PackAsWellAsPossible();
        promise5Load();
        promise6Store();
        promise7Clear();
        promise8Undo();
        changesAndTheCache();
        errorsChangeNothing();
        DUE.finish();
    }

    private static void promise1NewObject() {
        PackedLists x = new PackedLists();
        int[] counts = {0, 0, 0, 0, 0, 0, NONE, NONE, 0, 0};
        int[] properties = {0, 0, 0, 0, NONE, NONE};
        long hash = 619;
        for (int what = 0; what < counts.length; what++) {
            DUE.is("new: count(" + what + ")", x.count(what), counts[what]);
            hash = 31 * hash + counts[what];
        }
        for (int list = 0; list < 6; list++) {
            for (int what = 0; what < properties.length; what++) {
                DUE.is("new: list(" + list + ", " + what + ")", x.list(list, what), properties[what]);
                hash = 31 * hash + properties[what];
            }
            DUE.is("new: block(" + list + ", 0, 0)", x.block(list, 0, 0), BAD);
        }
        DUE.is("new: digest()", x.digest(), hash);
        DUE.is("new: result(0)", x.result(0), STATE);
        DUE.is("new: undo()", x.undo(), STATE);
        DUE.is("new: erase()", x.erase(), 0);
    }

    private static void promise2AddAnswers() {
        PackedLists x = new PackedLists();
        DUE.is("add(-1, 0)", x.add(-1, 0), BAD);
        DUE.is("add(6, 0)", x.add(6, 0), BAD);
        DUE.is("add(0, -1)", x.add(0, -1), BAD);
        DUE.is("add(0, 1000000)", x.add(0, 1000000), BAD);
        DUE.is("count(8) after errors", x.count(8), 0);
        DUE.is("add(5, 999999)", x.add(5, 999999), 0);
        DUE.is("add(5, 0)", x.add(5, 0), 0);
        DUE.is("add(5, 7)", x.add(5, 7), 1);
        DUE.is("add(5, 7) again", x.add(5, 7), STATE);
        DUE.is("list(5, 1): an empty list gets one block", x.list(5, 1), 1);
        for (int value = 0; value < 200; value++) {
            DUE.is("add(0, " + 2 * value + ")", x.add(0, 2 * value), value);
        }
        DUE.is("add to 200 numbers", x.add(0, 1), FULL);
        DUE.is("add to 200 numbers one of them", x.add(0, 398), STATE);
        DUE.is("add to 200 numbers a bad one", x.add(0, -5), BAD);
        DUE.is("list(0, 0)", x.list(0, 0), 200);
    }

    private static void promise2AddChoosesTheBlock() {
        PackedLists x = new PackedLists();
        Texts.load(x, 0, "10,12,20,22,30,32");
        x.pack(0, 2);
        DUE.is("add(0, 19)", x.add(0, 19), 2);
        lengths(x, 0, "19 comes behind base 10", 3, 2, 2);
        DUE.is("add(0, 21)", x.add(0, 21), 4);
        lengths(x, 0, "21 comes behind base 20", 3, 3, 2);
        DUE.is("add(0, 5)", x.add(0, 5), 0);
        lengths(x, 0, "5 comes into the first block", 4, 3, 2);
        DUE.is("its base is new", x.block(0, 0, 2), 5);
        DUE.is("add(0, 999)", x.add(0, 999), 9);
        lengths(x, 0, "999 comes into the last block", 4, 3, 3);
        DUE.is("the last block has a new width", x.block(0, 2, 3), 10);
    }

    private static void promise2AddCutsLongBlocks() {
        PackedLists x = new PackedLists();
        Texts.load(x, 1, "10-73,100-163");
        x.pack(1, 64);
        DUE.is("add(1, 80)", x.add(1, 80), 64);
        lengths(x, 1, "65 numbers become 32 and 33", 32, 33, 64);
        DUE.is("the base behind the cut", x.block(1, 1, 2), 42);
        DUE.is("add(1, 99)", x.add(1, 99), 65);
        lengths(x, 1, "34 numbers stay", 32, 34, 64);
        DUE.is("add(1, 164)", x.add(1, 164), 130);
        lengths(x, 1, "the last block is cut", 32, 34, 32, 33);
        PackedLists y = new PackedLists();
        for (int value = 64; value > 0; value--) {
            y.add(2, value);
        }
        lengths(y, 2, "64 numbers are one block", 64);
        y.add(2, 0);
        lengths(y, 2, "the first block is cut", 32, 33);
        DUE.is("base of block 0", y.block(2, 0, 2), 0);
        DUE.is("base of block 1", y.block(2, 1, 2), 32);
    }

    private static void promise3Remove() {
        PackedLists x = new PackedLists();
        Texts.load(x, 0, "1,5,9");
        DUE.is("remove(-1, 1)", x.remove(-1, 1), BAD);
        DUE.is("remove(6, 1)", x.remove(6, 1), BAD);
        DUE.is("remove(0, -1)", x.remove(0, -1), BAD);
        DUE.is("remove(0, 1000000)", x.remove(0, 1000000), BAD);
        DUE.is("remove(0, 4)", x.remove(0, 4), STATE);
        DUE.is("remove(0, 999999)", x.remove(0, 999999), STATE);
        DUE.is("remove(1, 5)", x.remove(1, 5), STATE);
        DUE.is("remove(0, 5)", x.remove(0, 5), 1);
        DUE.is("remove(0, 5) again", x.remove(0, 5), STATE);
        DUE.is("remove(0, 9)", x.remove(0, 9), 1);
        DUE.is("remove(0, 1)", x.remove(0, 1), 0);
        DUE.is("no block is left", x.list(0, 1), 0);
        DUE.is("no number is left", x.list(0, 0), 0);
        DUE.is("states", x.count(8), 4);
    }

    private static void promise3RemoveKeepsOtherBlocks() {
        PackedLists x = new PackedLists();
        Texts.load(x, 0, "1-9");
        x.pack(0, 3);
        DUE.is("remove(0, 4)", x.remove(0, 4), 3);
        lengths(x, 0, "the base goes", 3, 2, 3);
        DUE.is("the next number is the base", x.block(0, 1, 2), 5);
        x.remove(0, 6);
        x.remove(0, 5);
        lengths(x, 0, "an empty block goes", 3, 3);
        DUE.is("base of block 1", x.block(0, 1, 2), 7);
        DUE.is("first index of block 1", x.block(0, 1, 0), 3);
        x.remove(0, 1);
        x.remove(0, 2);
        x.remove(0, 3);
        lengths(x, 0, "the first block goes", 3);
        DUE.is("first index of block 0", x.block(0, 0, 0), 0);
    }

    private static void promise3RemoveFromFullLists() {
        for (int value : new int[] {0, 1, 100, 198, 199}) {
            PackedLists x = new PackedLists();
            Texts.load(x, 4, "0-199");
            x.pack(4, 1);
            DUE.is("200 blocks", x.list(4, 1), 200);
            DUE.is("remove(4, " + value + ")", x.remove(4, value), value);
            DUE.is("199 blocks", x.list(4, 1), 199);
            DUE.is("greatest", x.list(4, 5), value == 199 ? 198 : 199);
            DUE.is("base of block 99", x.block(4, 99, 2), value < 100 ? 100 : 99);
            DUE.is("undo()", x.undo(), 2);
            DUE.is("the last of 200 blocks", x.block(4, 199, 2), 199);
            DUE.is("add to 200 blocks", x.add(4, 500), FULL);
        }
    }

    private static void promise4PackByLength() {
        PackedLists x = new PackedLists();
        Texts.load(x, 3, "0-99");
        DUE.is("pack(-1, 0)", x.pack(-1, 0), BAD);
        DUE.is("pack(6, 0)", x.pack(6, 0), BAD);
        DUE.is("pack(3, -1)", x.pack(3, -1), BAD);
        DUE.is("pack(3, 65)", x.pack(3, 65), BAD);
        DUE.is("pack(3, 64)", x.pack(3, 64), 64);
        lengths(x, 3, "by 64", 64, 36);
        DUE.is("pack(3, 50)", x.pack(3, 50), 64);
        lengths(x, 3, "by 50", 50, 50);
        DUE.is("pack(3, 40)", x.pack(3, 40), 96);
        lengths(x, 3, "by 40", 40, 40, 20);
        DUE.is("pack(3, 1)", x.pack(3, 1), 3200);
        DUE.is("by 1", x.list(3, 1), 100);
        DUE.is("an empty list", x.pack(0, 0), 0);
        DUE.is("an empty list by 9", x.pack(0, 9), 0);
        DUE.is("states: load and six times pack", x.count(8), 7);
    }

    private static void promise4PackAsWellAsPossible() {
        PackedLists x = new PackedLists();
        Texts.load(x, 0, "0-199");
        x.pack(0, 1);
        DUE.is("200 successive numbers", x.pack(0, 0), 128);
        lengths(x, 0, "four blocks, the least lengths first", 8, 64, 64, 64);
        Texts.load(x, 1, "1,2,3,1000,1001,1002");
        DUE.is("an exception costs less than a block", x.list(1, 2), 60);
        lengths(x, 1, "one block", 6);
        Texts.load(x, 1, "0,100,200,300,400,500,600,700");
        DUE.is("seven gaps of 7 bits", x.pack(1, 0), 32 + 7 * 7);
        Texts.load(x, 2, "0-9,1000,2000,3000,4000,5000,6000,7000,8000");
        DUE.is("gaps of 0 and of 10 bits", x.pack(2, 0), 32 + 32 + 7 * 10);
        lengths(x, 2, "a block for each kind", 10, 8);
    }

    private static void promise5Load() {
        PackedLists x = new PackedLists();
        Texts.type(x, "3-5, 9");
        DUE.is("load(-1)", x.load(-1), BAD);
        DUE.is("load(6)", x.load(6), BAD);
        DUE.is("load(4)", x.load(4), 4);
        numbers(x, 4, 3, 4, 5, 9);
        DUE.is("the text is empty", x.count(9), 0);
        DUE.is("an empty text", x.load(4), 0);
        DUE.is("the list is empty", x.list(4, 0), 0);
        Texts.type(x, "1,x");
        DUE.is("a fault", x.load(4), -2002);
        DUE.is("BAD comes before faults", x.load(6), BAD);
        DUE.is("the text stays", x.count(9), 3);
        DUE.is("states", x.count(8), 2);
        DUE.is("200 numbers", Texts.load(x, 5, "0-99,999900-999999"), 200);
        DUE.is("greatest", x.list(5, 5), 999999);
        DUE.is("packed as well as possible", x.list(5, 2), x.costBy(5, 0));
    }

    private static void promise6Store() {
        PackedLists x = new PackedLists();
        DUE.is("store(-1)", x.store(-1), BAD);
        DUE.is("store(6) without a result", x.store(6), BAD);
        DUE.is("store(0) without a result", x.store(0), STATE);
        DUE.is("no state", x.count(8), 0);
        Texts.load(x, 0, "0-199");
        Texts.load(x, 1, "200");
        DUE.is("A", Texts.query(x, "A"), 200);
        DUE.is("200 numbers", x.store(2), 200);
        lengths(x, 2, "packed as well as possible", 8, 64, 64, 64);
        DUE.is("the result stays", x.count(6), 200);
        DUE.is("A|B", Texts.query(x, "A|B"), 201);
        DUE.is("201 numbers", x.store(3), FULL);
        DUE.is("nothing has changed", x.list(3, 0), 0);
        DUE.is("store(6) of 201 numbers", x.store(6), BAD);
        DUE.is("B-A", Texts.query(x, "B-A"), 1);
        x.clear(1);
        DUE.is("the result is older than the change", x.store(0), 1);
        numbers(x, 0, 200);
        DUE.is("A-A", Texts.query(x, "A-A"), 0);
        DUE.is("an empty result", x.store(0), 0);
        DUE.is("an empty list", x.list(0, 1), 0);
    }

    private static void promise7Clear() {
        PackedLists x = new PackedLists();
        Texts.load(x, 0, "4,5,6");
        Texts.load(x, 1, "7");
        DUE.is("clear(-1)", x.clear(-1), BAD);
        DUE.is("clear(6)", x.clear(6), BAD);
        DUE.is("clear(0)", x.clear(0), 3);
        DUE.is("no numbers", x.list(0, 0), 0);
        DUE.is("no blocks", x.list(0, 1), 0);
        DUE.is("the other list stays", x.list(1, 0), 1);
        DUE.is("clear(0) again", x.clear(0), 0);
        DUE.is("both are changes", x.count(8), 4);
    }

    private static void promise8Undo() {
        PackedLists x = new PackedLists();
        DUE.is("undo() at first", x.undo(), STATE);
        Texts.load(x, 0, "1-6");
        x.pack(0, 4);
        x.add(1, 50);
        x.remove(0, 5);
        Texts.query(x, "A|B");
        x.store(2);
        x.clear(0);
        DUE.is("states", x.count(8), 6);
        Texts.type(x, "B&C");
        DUE.is("undo clear", x.undo(), 5);
        lengths(x, 0, "before clear", 4, 1);
        DUE.is("undo store", x.undo(), 4);
        DUE.is("before store", x.list(2, 0), 0);
        DUE.is("undo remove", x.undo(), 3);
        lengths(x, 0, "before remove", 4, 2);
        DUE.is("undo add", x.undo(), 2);
        DUE.is("before add", x.list(1, 1), 0);
        DUE.is("undo pack", x.undo(), 1);
        lengths(x, 0, "before pack", 6);
        DUE.is("undo load", x.undo(), 0);
        DUE.is("before load", x.count(0), 0);
        DUE.is("undo() at last", x.undo(), STATE);
        DUE.is("the result stays", x.count(6), 6);
        DUE.is("the text stays", x.count(9), 3);
        for (int value = 0; value < 12; value++) {
            x.add(value % 6, value);
        }
        DUE.is("at most 8 states", x.count(8), 8);
        for (int left = 7; left >= 0; left--) {
            DUE.is("undo() of 8", x.undo(), left);
        }
        DUE.is("undo() of the dropped", x.undo(), STATE);
        DUE.is("the first four numbers stay", x.count(0), 4);
        for (int list = 0; list < 6; list++) {
            DUE.is("greatest of list " + list, x.list(list, 5), list < 4 ? list : NONE);
        }
    }

    private static void changesAndTheCache() {
        PackedLists x = new PackedLists();
        for (int list = 0; list < 3; list++) {
            Texts.load(x, list, "1-6");
        }
        Texts.query(x, "A");
        for (int kind = 0; kind < 6; kind++) {
            x.pack(0, 3);
            x.pack(1, 3);
            x.at(0, 0);
            x.at(0, 5);
            x.at(1, 0);
            DUE.is("in the cache", x.count(3), 3);
            change(x, kind);
            DUE.is("change " + kind + " takes out its blocks alone", x.count(3), 1);
            DUE.is("change " + kind + " leaves the other list's block", x.cached(1, 0), 1);
            x.undo();
            DUE.is("undo takes out all", x.count(3), 0);
        }
    }

    private static void change(PackedLists x, int kind) {
        switch (kind) {
            case 0:
                x.add(0, 100);
                break;
            case 1:
                x.remove(0, 6);
                break;
            case 2:
                x.pack(0, 3);
                break;
            case 3:
                Texts.load(x, 0, "1-6");
                break;
            case 4:
                x.store(0);
                break;
            default:
                x.clear(0);
                break;
        }
    }

    private static void errorsChangeNothing() {
        PackedLists x = new PackedLists();
        Texts.load(x, 0, "1-6");
        x.at(0, 2);
        Texts.query(x, "A");
        Texts.type(x, "1,1");
        long before = x.digest();
        x.add(0, 3);
        x.add(9, 3);
        x.remove(0, 7);
        x.remove(0, -7);
        x.pack(0, 65);
        x.load(0);
        x.load(7);
        x.store(8);
        x.clear(-3);
        x.type(128);
        x.at(0, 6);
        x.at(0, -1);
        x.find(0, 1, 2);
        x.find(0, -1, 0);
        x.find(0, 1000000, 0);
        x.query();
        DUE.is("digest() after errors", x.digest(), before);
    }

    private static void lengths(PackedLists x, int list, String when, int... lengths) {
        DUE.is(when + ": number of blocks", x.list(list, 1), lengths.length);
        int first = 0;
        for (int block = 0; block < lengths.length; block++) {
            DUE.is(when + ": length of block " + block, x.block(list, block, 1), lengths[block]);
            DUE.is(when + ": first index of block " + block, x.block(list, block, 0), first);
            first += lengths[block];
        }
    }

    private static void numbers(PackedLists x, int list, int... numbers) {
        DUE.is("size of list " + list, x.list(list, 0), numbers.length);
        for (int index = 0; index < numbers.length; index++) {
            DUE.is("number " + index + " of list " + list, x.at(list, index), numbers[index]);
        }
    }
}
