import java.lang.management.ManagementFactory;
import java.lang.reflect.Array;
import java.lang.reflect.Field;
import java.lang.reflect.Modifier;
import java.util.Collections;
import java.util.IdentityHashMap;
import java.util.Set;

/**
 * All calls of a run live in one room. A desk has to be so small that even 512 of the largest find
 * place there, and no call may make an object.
 */
public final class RoomTest {
    private static final int MOST_OBJECTS = 600_000;
    private static final int MOST_ELEMENTS = 7_300_000;
    private static final int MOST_DESKS = 512;

    private final Set<Object> seen = Collections.newSetFromMap(new IdentityHashMap<>());
    private int elements = 0;

    public static void main(String[] args) throws IllegalAccessException {
        Checks checks = new Checks();
        RoomTest room = new RoomTest();
        room.count(new MazeDesk(12, 12, 3));
        System.out.println("a desk of 12 times 12: " + room.seen.size() + " objects, " + room.elements + " elements");
        checks.due("512 desks are too many objects", false, room.seen.size() > MOST_OBJECTS / MOST_DESKS);
        checks.due("512 desks are too many elements", false, room.elements > MOST_ELEMENTS / MOST_DESKS);
        checks.due("bytes that calls take", 0, bytesTaken());
        checks.end();
    }

    private void count(Object object) throws IllegalAccessException {
        if (object == null || !seen.add(object)) {
            return;
        }
        if (object.getClass().isArray()) {
            countArray(object);
            return;
        }
        for (Field field : object.getClass().getDeclaredFields()) {
            if (!Modifier.isStatic(field.getModifiers())) {
                elements++;
                field.setAccessible(true);
                if (!field.getType().isPrimitive()) {
                    count(field.get(object));
                }
            }
        }
    }

    private void countArray(Object array) throws IllegalAccessException {
        int length = Array.getLength(array);
        elements += length;
        if (!array.getClass().getComponentType().isPrimitive()) {
            for (int i = 0; i < length; i++) {
                count(Array.get(array, i));
            }
        }
    }

    private static long bytesTaken() {
        com.sun.management.ThreadMXBean thread =
                (com.sun.management.ThreadMXBean) ManagementFactory.getThreadMXBean();
        MazeDesk large = new MazeDesk(12, 12, 3);
        MazeDesk small = new MazeDesk(4, 4, 3);
        // Once before it counts: the first call of anything loads classes.
        callAll(large, 1);
        callAll(small, 1);
        thread.getCurrentThreadAllocatedBytes();
        long before = thread.getCurrentThreadAllocatedBytes();
        callAll(large, 2);
        callAll(small, 2);
        return thread.getCurrentThreadAllocatedBytes() - before;
    }

    private static void callAll(MazeDesk desk, int seed) {
        desk.cut(5, true);
        desk.cut(5, false);
        desk.make(seed, 0);
        desk.top(1);
        desk.popped(1);
        desk.circles();
        desk.trees();
        desk.braid(2);
        desk.deadEnds();
        desk.exit(15);
        for (int direction = 0; direction < 4; direction++) {
            desk.passage(14, direction);
            desk.open(15, direction, false);
            desk.open(15, direction, true);
            desk.oneWay(14, direction);
            desk.door(direction, 15, direction);
        }
        desk.placeKeys(seed);
        desk.key(3, 1);
        for (int i = 0; i < desk.escape(); i++) {
            desk.walk(desk.step(i));
        }
        desk.player(0);
        desk.again();
        desk.start(2);
        for (int i = 0; i < 30; i++) {
            desk.drawing(i);
        }
    }
}
