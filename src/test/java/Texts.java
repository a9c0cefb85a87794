/** Puts whole texts into a store, which takes them byte by byte. */
final class Texts {
    private Texts() {
    }

    /** The text is this one then, whatever it was before. */
    static PackedLists type(PackedLists store, String text) {
        store.erase();
        for (int index = 0; index < text.length(); index++) {
            store.type(text.charAt(index));
        }
        return store;
    }

    static int load(PackedLists store, int list, String text) {
        return type(store, text).load(list);
    }

    static int query(PackedLists store, String text) {
        return type(store, text).query();
    }
}
