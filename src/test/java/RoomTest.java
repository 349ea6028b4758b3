import java.lang.reflect.Array;
import java.lang.reflect.Field;
import java.lang.reflect.Modifier;
import java.util.ArrayDeque;
import java.util.Collections;
import java.util.Deque;
import java.util.IdentityHashMap;
import java.util.Set;

/**
 * All calls of a run live in one room, in which nothing is cleared away: what an object keeps is little, and only
 * engine() makes more of it.
 */
final class RoomTest {
    private static final int MOST_OBJECTS = 150;
    private static final int MOST_ELEMENTS = 6000;
    private static final Due due = new Due();

    public static void main(String[] args) throws IllegalAccessException {
        keepsLittle();
        callsMakeNothing();
        due.end();
    }

    /** How many objects and arrays there are, and how many fields and elements in them. */
    private static int[] kept(Object root) throws IllegalAccessException {
        Set<Object> seen = Collections.newSetFromMap(new IdentityHashMap<>());
        Deque<Object> open = new ArrayDeque<>();
        open.add(root);
        seen.add(root);
        int elements = 0;
        while (!open.isEmpty()) {
            Object next = open.remove();
            if (next.getClass().isArray()) {
                elements += Array.getLength(next);
                for (int i = 0; !next.getClass().getComponentType().isPrimitive() && i < Array.getLength(next); i++) {
                    find(Array.get(next, i), seen, open);
                }
                continue;
            }
            for (Field f : next.getClass().getDeclaredFields()) {
                if (Modifier.isStatic(f.getModifiers())) {
                    continue;
                }
                elements++;
                f.setAccessible(true);
                if (!f.getType().isPrimitive()) {
                    find(f.get(next), seen, open);
                }
            }
        }
        return new int[] {seen.size(), elements};
    }

    private static void find(Object found, Set<Object> seen, Deque<Object> open) {
        if (found != null && seen.add(found)) {
            open.add(found);
        }
    }

    /** Engines of the greatest kind, and something of all else. */
    private static WheelTables crowded() {
        WheelTables x = new WheelTables();
        Works.fill(x, 0, 3, Works.times(12, 12));
        for (int i = 0; i < 4; i++) {
            x.engine(7, 12, 0);
        }
        return x;
    }

    private static void keepsLittle() throws IllegalAccessException {
        int[] fresh = kept(new WheelTables());
        int[] crowded = kept(crowded());
        due.is(fresh[0] + " objects at first", fresh[0] <= MOST_OBJECTS, true);
        due.is(fresh[1] + " elements at first", fresh[1] <= MOST_ELEMENTS, true);
        due.is(crowded[0] + " objects with four engines", crowded[0] <= MOST_OBJECTS, true);
        due.is(crowded[1] + " elements with four engines", crowded[1] <= MOST_ELEMENTS, true);
    }

    /** The dearest calls, again and again; what is told by the machine itself may be a little more than they make. */
    private static void callsMakeNothing() throws IllegalAccessException {
        com.sun.management.ThreadMXBean memory =
            (com.sun.management.ThreadMXBean) java.lang.management.ManagementFactory.getThreadMXBean();
        long thread = Thread.currentThread().getId();
        useAll(crowded(), 1);
        WheelTables x = crowded();
        int[] before = kept(x);
        long made = memory.getThreadAllocatedBytes(thread);
        useAll(x, 24);
        made = memory.getThreadAllocatedBytes(thread) - made;
        int[] behind = kept(x);
        due.is("480 calls made " + made + " bytes", made < 4096, true);
        due.is("no more objects are kept behind them", behind[0] <= before[0], true);
        due.is("no more elements are kept behind them", behind[1] <= before[1], true);
    }

    private static void useAll(WheelTables x, int times) {
        for (int i = 0; i < times; i++) {
            x.tray(1, 3, 60);
            x.write(1, 0, 7 * i);
            x.set(i % 4, 1, 7);
            x.mishap(i % 4, 1, 0, 0, 0);
            x.turn(i % 4, 100);
            x.explain(i % 4, 1, 60);
            x.sheet(i % 4, 1, 60);
            x.pour(1, 0, 1, 1, 50);
            x.finer(1, 4, 20, 60);
            x.errata(1, 20, 4, 1000);
            x.feed(0x70757420, 0x3020373b, 0x206d756c, 0x20302030, 0x20313b20);
            x.cards(20);
            x.run();
            x.turnsAt(999999999999L, 12);
            x.cast(i, i, i);
            x.print(i, 1000);
            x.tell(i, i, i + 1);
            x.bad(i);
            x.job(2, 1, 1 + i);
            x.part();
        }
    }
}
