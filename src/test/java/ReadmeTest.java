import java.io.IOException;
import java.lang.reflect.Method;
import java.lang.reflect.Modifier;
import java.nio.file.Files;
import java.nio.file.Path;

/** README.md says how to use the class: its example answers what it says, and it tells all calls. */
final class ReadmeTest {
    private static final Due DUE = new Due("ReadmeTest");

    private ReadmeTest() {
    }

    public static void main(String[] args) throws IOException {
        String readme = Files.readString(Path.of("README.md"));
        example(readme);
        expressionOfTheTable();
        allCallsAreTold(readme);
        DUE.finish();
    }

    private static void example(String readme) {
        PackedLists store = new PackedLists();
        Texts.type(store, "5,7-12,100");
        DUE.is("load(0)", store.load(0), 8);
        DUE.is("add(1, 9)", store.add(1, 9), 0);
        DUE.is("list(0, 2)", store.list(0, 2), 67);
        DUE.is("find(0, 13, 1)", store.find(0, 13, 1), 100);
        Texts.type(store, "A-B");
        DUE.is("query()", store.query(), 7);
        DUE.is("result(0)", store.result(0), 5);
        DUE.is("store(2)", store.store(2), 7);
        DUE.is("undo()", store.undo(), 2);
        DUE.is("list(2, 0)", store.list(2, 0), 0);
        for (String call : new String[] {"load(0)", "add(1, 9)", "list(0, 2)", "find(0, 13, 1)", "query()",
            "result(0)", "store(2)", "undo()"}) {
            DUE.holds("the example has " + call, readme.contains("\nstore." + call + ";"));
        }
    }

    private static void expressionOfTheTable() {
        DUE.is("query() of (A|B)&C-D^E", Texts.query(new PackedLists(), "(A|B)&C-D^E"), 0);
    }

    private static void allCallsAreTold(String readme) {
        for (Method method : PackedLists.class.getDeclaredMethods()) {
            if (Modifier.isPublic(method.getModifiers())) {
                DUE.holds("README.md tells " + method.getName(), readme.contains("\n| `" + method.getName() + "("));
            }
        }
    }
}
