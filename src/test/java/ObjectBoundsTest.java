/** Promise 1, and what an object is used for: a new one, 512 calls, and several of them beside one another. */
public final class ObjectBoundsTest {
    private static final int NONE = PackedLists.NONE, BAD = PackedLists.BAD, STATE = PackedLists.STATE;
    private static final Sentences DUE = new Sentences("ObjectBoundsTest");

    public static void main(String[] args) {
        newObjects();
        objectsBesideOneAnother();
        manyChanges();
        manyLooks();
        manyTexts();
        dearCalls();
        DUE.finish();
    }

    private static void newObjects() {
        DUE.of("Creates a store with empty lists, an empty cache, no result, and an empty text.");
        PackedLists x = new PackedLists();
        for (int list = 0; list < 6; list++) {
            DUE.is("numbers of list " + list, x.list(list, 0), 0);
            DUE.is("blocks of list " + list, x.list(list, 1), 0);
            DUE.is("cost of list " + list, x.list(list, 2), 0);
            DUE.is("exceptions of list " + list, x.list(list, 3), 0);
            DUE.is("least of list " + list, x.list(list, 4), NONE);
            DUE.is("greatest of list " + list, x.list(list, 5), NONE);
            DUE.is("block 0 of list " + list, x.cached(list, 0), BAD);
            DUE.is("find() in list " + list, x.find(list, 0, 1), NONE);
            DUE.is("at() in list " + list, x.at(list, 0), BAD);
        }
        DUE.is("the cache", x.count(3), 0);
        DUE.is("hits", x.count(4), 0);
        DUE.is("misses", x.count(5), 0);
        DUE.is("numbers of the result", x.count(6), NONE);
        DUE.is("probes of the result", x.count(7), NONE);
        DUE.is("result(0)", x.result(0), STATE);
        DUE.is("store(0)", x.store(0), STATE);
        DUE.is("states", x.count(8), 0);
        DUE.is("undo()", x.undo(), STATE);
        DUE.is("bytes of the text", x.count(9), 0);
        DUE.is("the text as an expression", x.query(), -2000);
        DUE.is("the text as numbers", x.load(0), 0);
    }

    private static void objectsBesideOneAnother() {
        PackedLists x = new PackedLists();
        PackedLists y = new PackedLists();
        long untouched = y.digest();
        Texts.load(x, 0, "1-9");
        x.at(0, 0);
        Texts.query(x, "A&A");
        DUE.is("another object stays new", y.digest(), untouched);
        y.add(0, 5);
        DUE.is("and x has its own history", x.count(8), 1);
        DUE.is("and its own text", x.count(9), 3);
        DUE.is("a third object is new", new PackedLists().digest(), untouched);
    }

    // ---- 512 calls

    private static void manyChanges() {
        DUE.of("An object is used for at most 512 calls after it has been made; what later calls answer is free.");
        PackedLists x = new PackedLists();
        for (int call = 0; call < 256; call++) {
            DUE.is("add() of 511 changes", x.add(call % 6, call), 0);
            if (call < 255) {
                DUE.is("remove() of 511 changes", x.remove(call % 6, call), 0);
            }
        }
        DUE.is("call 512: undo() of 8 states", x.undo(), 7);
    }

    private static void manyLooks() {
        PackedLists x = new PackedLists();
        x.add(3, 77);
        for (int call = 0; call < 510; call++) {
            DUE.is("at() of 510", x.at(3, 0), 77);
        }
        DUE.is("call 512: hits", x.count(4), 509);
        PackedLists y = new PackedLists();
        Texts.load(y, 0, "1-9");
        y.pack(0, 1);
        for (int call = 0; call < 500; call++) {
            y.at(0, call % 5);
        }
        DUE.is("500 misses of five blocks in turn", y.count(5), 500);
    }

    private static void manyTexts() {
        PackedLists x = new PackedLists();
        for (int call = 0; call < 127; call++) {
            x.type('A');
            DUE.is("query() of 127", x.query(), 0);
            x.type('B');
            DUE.is("erase() of 127", x.erase(), 2);
        }
        DUE.is("the result at last", x.count(6), 0);
    }

    private static void dearCalls() {
        PackedLists x = new PackedLists();
        for (int list = 0; list < 6; list++) {
            Texts.load(x, list, 900 * list + "-" + (900 * list + 199));
        }
        Texts.type(x, "(A|B|C|D|E|F)&(A^B^C^D^E^F)&(F|E|D|C|B|A)&((A|B|C)|(D|E|F))");
        for (int times = 0; times < 80; times++) {
            DUE.is("query() of 80", x.query(), 1200);
            DUE.is("pack() of 80", x.pack(times % 6, 1), 6400);
            DUE.is("pack() of 80", x.pack(times % 6, 0), 128);
        }
        DUE.is("the cost at last", x.count(2), 6 * 128);
    }
}
