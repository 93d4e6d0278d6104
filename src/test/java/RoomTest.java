import java.lang.management.ManagementFactory;
import java.lang.reflect.Array;
import java.lang.reflect.Field;
import java.lang.reflect.Modifier;
import java.util.ArrayDeque;
import java.util.Collections;
import java.util.Deque;
import java.util.IdentityHashMap;
import java.util.Set;

/** The room of a run: what an object holds when all of it is in use, and that later calls make nothing. */
public final class RoomTest {
    private static final int MOST_OBJECTS = 1000;
    private static final int MOST_ELEMENTS = 12000;
    // For what the measuring itself makes; a call that made a row would make more than this in so many calls.
    private static final long MOST_BYTES = 4000;

    public static void main(String[] args) throws IllegalAccessException {
        FairLink link = new FairLink();
        for (int i = 0; i < 6; i++) {
            link.addFlow(i + 1);
        }
        useAll(link);
        long before = allocated();
        for (int i = 0; i < 25; i++) {
            useAll(link);
        }
        long made = allocated() - before;
        Script.due("room", "25 times 15 calls made " + made + " bytes; few enough", made <= MOST_BYTES ? 1 : 0, 1);
        count(link);
        Script.end();
    }

    private static void useAll(FairLink link) {
        link.put(Script.characters("a9*9,b1"));
        link.fault();
        link.load();
        link.offer(2, 900, 500);
        link.offer(3, 2000, 0);
        link.save(0);
        link.advance(20);
        link.save(1);
        link.forecast(link.flow(3, 6), 2000);
        link.leastWeight(link.flow(3, 6), 1000);
        link.bestSplit(2, 1, 100, 6, 1000);
        link.awaitDelivery(100);
        link.cancel(link.flow(3, 6));
        link.restore(1);
        link.wipe();
    }

    private static long allocated() {
        com.sun.management.ThreadMXBean bean = (com.sun.management.ThreadMXBean) ManagementFactory.getThreadMXBean();
        return bean.getThreadAllocatedBytes(Thread.currentThread().getId());
    }

    private static void count(FairLink link) throws IllegalAccessException {
        Set<Object> seen = Collections.newSetFromMap(new IdentityHashMap<>());
        Deque<Object> open = new ArrayDeque<>();
        open.add(link);
        seen.add(link);
        int elements = 0;
        while (!open.isEmpty()) {
            Object object = open.remove();
            if (object.getClass().isArray()) {
                elements += Array.getLength(object);
                if (object instanceof Object[] members) {
                    for (Object member : members) {
                        visit(member, seen, open);
                    }
                }
                continue;
            }
            for (Field field : object.getClass().getDeclaredFields()) {
                if (!Modifier.isStatic(field.getModifiers())) {
                    elements++;
                    field.setAccessible(true);
                    if (!field.getType().isPrimitive()) {
                        visit(field.get(object), seen, open);
                    }
                }
            }
        }
        Script.due("room", seen.size() + " objects; few enough", seen.size() <= MOST_OBJECTS ? 1 : 0, 1);
        Script.due("room", elements + " fields and elements; few enough", elements <= MOST_ELEMENTS ? 1 : 0, 1);
        System.out.println("an object in full use: " + seen.size() + " objects and arrays, " + elements + " fields and elements");
    }

    private static void visit(Object object, Set<Object> seen, Deque<Object> open) {
        if (object != null && seen.add(object)) {
            open.add(object);
        }
    }
}
