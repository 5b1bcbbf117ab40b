import java.lang.reflect.Array;
import java.lang.reflect.Field;
import java.lang.reflect.Modifier;
import java.util.ArrayDeque;
import java.util.Collections;
import java.util.Deque;
import java.util.IdentityHashMap;
import java.util.Set;

/** The room of a run: what an object of the class is made of, and that its calls add nothing to it. */
public final class RoomTest {
    private static final Check check = new Check("RoomTest");
    private static final int CALLS = 512;
    private static final int OBJECTS_IN_A_ROOM = 600_000;
    private static final int ELEMENTS_IN_A_ROOM = 7_300_000;

    /** Objects and arrays, and their fields and elements. */
    private record Room(int objects, int elements) {
    }

    public static void main(String[] args) throws IllegalAccessException {
        Room made = roomOf(new DigestCaches());
        System.out.println("RoomTest: a new object is " + made.objects + " objects and arrays with " + made.elements
            + " fields and elements");
        check.holds("the objects of a run that makes a new one with each call", made.objects * CALLS < OBJECTS_IN_A_ROOM);
        check.holds("their fields and elements", made.elements * CALLS < ELEMENTS_IN_A_ROOM);
        check.holds("a busy object is as large", made.equals(roomOf(Whole.busy(4))));
        check.holds("so is one with a full text", made.equals(roomOf(Whole.full())));
        check.end();
    }

    private static Room roomOf(Object first) throws IllegalAccessException {
        Set<Object> found = Collections.newSetFromMap(new IdentityHashMap<>());
        Deque<Object> left = new ArrayDeque<>();
        find(first, found, left);
        int elements = 0;
        while (!left.isEmpty()) {
            Object next = left.remove();
            elements += next.getClass().isArray() ? partsOfArray(next, found, left) : partsOfObject(next, found, left);
        }
        return new Room(found.size(), elements);
    }

    private static void find(Object part, Set<Object> found, Deque<Object> left) {
        if (part != null && found.add(part)) {
            left.add(part);
        }
    }

    private static int partsOfArray(Object array, Set<Object> found, Deque<Object> left) {
        int length = Array.getLength(array);
        for (int i = 0; i < length && !array.getClass().getComponentType().isPrimitive(); i++) {
            find(Array.get(array, i), found, left);
        }
        return length;
    }

    private static int partsOfObject(Object object, Set<Object> found, Deque<Object> left)
            throws IllegalAccessException {
        int fields = 0;
        for (Field field : object.getClass().getDeclaredFields()) {
            if (!Modifier.isStatic(field.getModifiers())) {
                fields++;
                field.setAccessible(true);
                if (!field.getType().isPrimitive()) {
                    find(field.get(object), found, left);
                }
            }
        }
        return fields;
    }
}
