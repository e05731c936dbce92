import com.sun.management.ThreadMXBean;
import java.lang.management.ManagementFactory;
import java.lang.reflect.Array;
import java.lang.reflect.Field;
import java.lang.reflect.Modifier;
import java.util.ArrayDeque;
import java.util.Collections;
import java.util.Deque;
import java.util.IdentityHashMap;
import java.util.Set;

/** All calls of one run live in one room: an object is small, and the calls on it make no others. */
public final class RoomTest {
    private static final int MOST_OBJECTS = 60;
    private static final int MOST_ELEMENTS = 8000;
    /** As many as the 512 calls that the document promises leave room for. */
    private static final int ROUNDS = 17;

    private final Checks checks = new Checks();
    private final ThreadMXBean thread = (ThreadMXBean) ManagementFactory.getThreadMXBean();

    private final Set<Object> objects = Collections.newSetFromMap(new IdentityHashMap<>());
    private final Deque<Object> open = new ArrayDeque<>();
    private int elements;

    public static void main(String[] args) throws IllegalAccessException {
        RoomTest test = new RoomTest();
        test.holdsLittle();
        test.makesNothing();
        test.checks.end("RoomTest");
    }

    private void holdsLittle() throws IllegalAccessException {
        FamilyShelf x = new FamilyShelf();
        measure(x);
        int objectsAtFirst = objects.size();
        int elementsAtFirst = elements;
        checks.due("few objects: " + objectsAtFirst, objectsAtFirst <= MOST_OBJECTS, true);
        checks.due("few fields and elements: " + elementsAtFirst, elementsAtFirst <= MOST_ELEMENTS, true);
        prepare(x);
        for (int round = 0; round < ROUNDS; round++) {
            everyCall(x);
        }
        measure(x);
        checks.due("objects after all calls", objects.size(), objectsAtFirst);
        checks.due("fields and elements after all calls", elements, elementsAtFirst);
    }

    /** The virtual machine may make something of its own in one round, but hardly in each. */
    private void makesNothing() {
        FamilyShelf x = new FamilyShelf();
        prepare(x);
        long least = Long.MAX_VALUE;
        for (int round = 0; round < ROUNDS; round++) {
            long before = thread.getCurrentThreadAllocatedBytes();
            everyCall(x);
            least = Math.min(least, thread.getCurrentThreadAllocatedBytes() - before);
        }
        checks.due("bytes that a round of calls makes", least, 0);
    }

    /** Shelf 0 gets all sets, and there are as many edges as there can be. */
    private static void prepare(FamilyShelf x) {
        x.put(0, 0);
        for (int e = 0; e < 12; e++) {
            x.change(1, 2, 0, e);
            x.combine(0, 0, 0, 1);
            x.edge(e, e % 7, (e + 1 + e / 7) % 7);
        }
    }

    private static void everyCall(FamilyShelf x) {
        x.put(2, 77);
        x.take(2, 77);
        for (int how = 0; how <= 8; how++) {
            x.combine(1, how, 0, 0);
        }
        x.change(1, 2, 0, 5);
        x.extreme(1, 0, true);
        x.sized(1, 0, 6);
        x.size(1);
        x.clear(1);
        x.cut(3);
        x.edge(3, 3, 4);
        x.paths(1, 0, 6);
        x.matchings(1);
        x.weight(4, 44);
        x.count(0);
        x.has(0, 99);
        x.nth(0, 4095);
        x.rank(0, 4095);
        x.heaviest(0);
        x.parts(0);
    }

    private void measure(FamilyShelf x) throws IllegalAccessException {
        objects.clear();
        elements = 0;
        reach(x);
        while (!open.isEmpty()) {
            Object object = open.remove();
            if (object.getClass().isArray()) {
                measureArray(object);
            } else {
                measureFields(object);
            }
        }
    }

    private void measureArray(Object array) {
        int length = Array.getLength(array);
        elements += length;
        for (int i = 0; i < length && !array.getClass().getComponentType().isPrimitive(); i++) {
            reach(Array.get(array, i));
        }
    }

    private void measureFields(Object object) throws IllegalAccessException {
        for (Field field : object.getClass().getDeclaredFields()) {
            if (!Modifier.isStatic(field.getModifiers())) {
                elements++;
                field.setAccessible(true);
                reach(field.getType().isPrimitive() ? null : field.get(object));
            }
        }
    }

    private void reach(Object object) {
        if (object != null && objects.add(object)) {
            open.add(object);
        }
    }
}
