import java.lang.reflect.Constructor;
import java.lang.reflect.Field;
import java.lang.reflect.Method;
import java.lang.reflect.Modifier;
import java.util.Arrays;
import java.util.TreeSet;

/** The public face: its constants, constructor and methods, and nothing else that could be seen from outside. */
public final class FaceTest {
    private static final Check C = new Check("FaceTest");

    public static void main(String[] args) {
        C.due("INVALID_ARGUMENT", Check.INVALID, FairBooks.INVALID_ARGUMENT);
        C.due("NOT_POSSIBLE", Check.NOT_POSSIBLE, FairBooks.NOT_POSSIBLE);
        C.due("LIMIT_REACHED", Check.LIMIT, FairBooks.LIMIT_REACHED);
        C.due("NOT_FOUND", Check.NOT_FOUND, FairBooks.NOT_FOUND);
        TreeSet<String> due = new TreeSet<>(Arrays.asList("FairBooks()",
            "INVALID_ARGUMENT", "NOT_POSSIBLE", "LIMIT_REACHED", "NOT_FOUND",
            "name 2", "leaf 1", "sign 3", "over 2", "dedicate 3", "move 2", "trade 3", "tear 1", "coins 2", "pageOf 3",
            "leafOf 2", "at 2", "collectorOf 2", "nameOf 2", "gain 4", "fair 2", "best 2", "missing 2", "mean 1",
            "count 1", "undo 0", "type 1", "clearText 0", "fault 1", "play 0"));
        TreeSet<String> there = new TreeSet<>();
        for (Constructor<?> c : FairBooks.class.getDeclaredConstructors()) {
            there.add("FairBooks()" + (c.getParameterCount() == 0 && Modifier.isPublic(c.getModifiers()) ? "" : " other"));
        }
        for (Field f : FairBooks.class.getDeclaredFields()) {
            if (!Modifier.isPrivate(f.getModifiers())) {
                there.add(f.getName());
            }
        }
        for (Method m : FairBooks.class.getDeclaredMethods()) {
            if (!Modifier.isPrivate(m.getModifiers())) {
                there.add(m.getName() + " " + m.getParameterCount());
                C.due(m.getName() + " returns int", 1, m.getReturnType() == int.class ? 1 : 0);
            }
        }
        if (!there.equals(due)) {
            System.out.println("there is " + there + ", due is " + due);
        }
        C.due("the face", 1, there.equals(due) ? 1 : 0);
        C.due("public and final", Modifier.PUBLIC | Modifier.FINAL, FairBooks.class.getModifiers());
        C.due("two objects are apart", 0, twoObjects());
        C.end();
    }

    private static int twoObjects() {
        FairBooks x = new FairBooks();
        FairBooks y = new FairBooks();
        x.name(1, 0);
        x.leaf(0);
        x.sign(0, 0, 0);
        x.type('l');
        return y.count(0) + y.count(1) + y.count(2) + y.count(8) + y.count(9);
    }
}
