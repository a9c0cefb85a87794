import java.lang.reflect.Constructor;
import java.lang.reflect.Field;
import java.lang.reflect.Method;
import java.lang.reflect.Modifier;
import java.util.Arrays;
import java.util.TreeSet;

/** The public face: just the document's members, and no others that can be seen from outside. */
public final class FaceTest {
    private static final String[] METHODS = {
        "int add(int,int)", "int remove(int,int)", "int pack(int,int)", "int load(int)", "int store(int)",
        "int clear(int)", "int undo()", "int type(int)", "int erase()", "int list(int,int)",
        "int block(int,int,int)", "long word(int,int,int)", "int exception(int,int,int,int)", "int gaps(int,int)",
        "int costBy(int,int)", "int part(int,int,int,int)", "int at(int,int)", "int find(int,int,int)",
        "int cached(int,int)", "int query()", "int result(int)", "int common(int,int,int)", "int count(int)",
        "long digest()",
    };

    public static void main(String[] args) {
        Due due = new Due("FaceTest");
        due.is("NONE", PackedLists.NONE, -1);
        due.is("BAD", PackedLists.BAD, -2);
        due.is("STATE", PackedLists.STATE, -3);
        due.is("FULL", PackedLists.FULL, -4);
        due.holds("the class is public and final",
                Modifier.isPublic(PackedLists.class.getModifiers())
                        && Modifier.isFinal(PackedLists.class.getModifiers()));
        due.holds("the methods are the document's: " + visibleMethods(),
                visibleMethods().equals(new TreeSet<>(Arrays.asList(METHODS))));
        due.holds("the constants are the document's: " + visibleFields(),
                visibleFields().equals(new TreeSet<>(Arrays.asList("NONE", "BAD", "STATE", "FULL"))));
        due.holds("there is one constructor, without arguments", onlyPlainConstructor());
        due.holds("the classes inside are static and neither public nor protected", innerClassesAreHidden());
        due.holds("no method of a class inside, or private one, bears a public one's name", namesAreApart());
        due.finish();
    }

    private static TreeSet<String> visibleMethods() {
        TreeSet<String> found = new TreeSet<>();
        for (Method method : PackedLists.class.getDeclaredMethods()) {
            if (!Modifier.isPrivate(method.getModifiers()) && !method.isSynthetic()) {
                String types = Arrays.toString(method.getParameterTypes()).replaceAll("[\\[\\] ]", "");
                found.add(method.getReturnType() + " " + method.getName() + "(" + types + ")");
            }
        }
        return found;
    }

    private static TreeSet<String> visibleFields() {
        TreeSet<String> found = new TreeSet<>();
        for (Field field : PackedLists.class.getDeclaredFields()) {
            if (!Modifier.isPrivate(field.getModifiers()) && !field.isSynthetic()) {
                found.add(field.getName());
            }
        }
        return found;
    }

    private static boolean onlyPlainConstructor() {
        Constructor<?>[] all = PackedLists.class.getDeclaredConstructors();
        return all.length == 1 && Modifier.isPublic(all[0].getModifiers()) && all[0].getParameterCount() == 0;
    }

    private static boolean innerClassesAreHidden() {
        for (Class<?> inner : PackedLists.class.getDeclaredClasses()) {
            int modifiers = inner.getModifiers();
            if (Modifier.isPublic(modifiers) || Modifier.isProtected(modifiers) || !Modifier.isStatic(modifiers)) {
                return false;
            }
        }
        return true;
    }

    private static boolean namesAreApart() {
        TreeSet<String> names = new TreeSet<>();
        for (String method : METHODS) {
            names.add(method.substring(method.indexOf(' ') + 1, method.indexOf('(')));
        }
        for (Method method : PackedLists.class.getDeclaredMethods()) {
            if (Modifier.isPrivate(method.getModifiers()) && names.contains(method.getName())) {
                return false;
            }
        }
        for (Class<?> inner : PackedLists.class.getDeclaredClasses()) {
            for (Method method : inner.getDeclaredMethods()) {
                if (names.contains(method.getName())) {
                    return false;
                }
            }
        }
        return true;
    }
}
