import com.sun.management.ThreadMXBean;
import java.lang.management.ManagementFactory;
import java.lang.reflect.Array;
import java.lang.reflect.Field;
import java.lang.reflect.Modifier;
import java.util.Collections;
import java.util.IdentityHashMap;
import java.util.Set;

/** All calls of a run live in one room: a new object is small, and the calls use its rows again. */
public final class RoomTest {
    private static final Due DUE = new Due("RoomTest");

    public static void main(String[] args) throws IllegalAccessException {
        PackedLists x = new PackedLists();
        roomOf("a new object", x, 300, 12000);
        dearCalls(x);
        roomOf("an object after a query", x, 300, 18000);
        callsMakeNothing();
        DUE.finish();
    }

    private static void roomOf(String when, PackedLists x, int mostObjects, int mostElements)
            throws IllegalAccessException {
        Set<Object> seen = Collections.newSetFromMap(new IdentityHashMap<>());
        int elements = elementsOf(x, seen);
        System.out.println("RoomTest: " + when + " has " + seen.size() + " objects, " + elements + " elements");
        DUE.holds(when + ": objects", seen.size() <= mostObjects);
        DUE.holds(when + ": elements", elements <= mostElements);
    }

    private static int elementsOf(Object object, Set<Object> seen) throws IllegalAccessException {
        if (object == null || !seen.add(object)) {
            return 0;
        }
        int elements = 0;
        if (object.getClass().isArray()) {
            elements = Array.getLength(object);
            if (!object.getClass().getComponentType().isPrimitive()) {
                for (Object element : (Object[]) object) {
                    elements += elementsOf(element, seen);
                }
            }
            return elements;
        }
        for (Field field : object.getClass().getDeclaredFields()) {
            if (Modifier.isStatic(field.getModifiers())) {
                continue;
            }
            elements++;
            if (!field.getType().isPrimitive()) {
                field.setAccessible(true);
                elements += elementsOf(field.get(object), seen);
            }
        }
        return elements;
    }

    private static void dearCalls(PackedLists x) {
        for (int list = 0; list < 6; list++) {
            x.erase();
            x.type('0' + list);
            x.load(list);
            x.add(list, 70 * list);
            x.add(list, 777);
            x.pack(list, 0);
            x.remove(list, 777);
        }
        x.type('A');
        x.type('&');
        x.type('(');
        x.type('B');
        x.type('|');
        x.type('C');
        x.type(')');
        x.query();
        x.store(1);
        x.common(0, 1, 1);
        x.find(0, 4, 0);
        x.at(0, 0);
        x.digest();
        x.costBy(0, 0);
        x.undo();
        x.clear(5);
    }

    private static void callsMakeNothing() {
        ThreadMXBean threads = (ThreadMXBean) ManagementFactory.getThreadMXBean();
        long thread = Thread.currentThread().getId();
        PackedLists x = new PackedLists();
        dearCalls(x);
        threads.getThreadAllocatedBytes(thread);
        long before = threads.getThreadAllocatedBytes(thread);
        for (int times = 0; times < 500; times++) {
            dearCalls(x);
        }
        long made = threads.getThreadAllocatedBytes(thread) - before;
        DUE.holds("500 times many calls make nothing, but made bytes: " + made, made < 20000);
    }
}
