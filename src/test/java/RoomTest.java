import com.sun.management.ThreadMXBean;
import java.lang.management.ManagementFactory;
import java.lang.reflect.Array;
import java.lang.reflect.Field;
import java.lang.reflect.Modifier;
import java.util.Collections;
import java.util.IdentityHashMap;
import java.util.Set;

/** All calls of a run live in one room: an object is small, and its calls make nothing. */
public final class RoomTest {
    private static final Due due = new Due();
    private static final int MOST_OBJECTS = 500;
    private static final int MOST_ELEMENTS = 30000;

    private static final Set<Object> met = Collections.newSetFromMap(new IdentityHashMap<>());
    private static int elements = 0;

    private static void count(Object thing) throws IllegalAccessException {
        if (thing == null || !met.add(thing)) {
            return;
        }
        if (thing.getClass().isArray()) {
            int length = Array.getLength(thing);
            elements += length;
            boolean ofNumbers = thing.getClass().getComponentType().isPrimitive();
            for (int i = 0; i < length && !ofNumbers; i++) {
                count(Array.get(thing, i));
            }
            return;
        }
        for (Field f : thing.getClass().getDeclaredFields()) {
            if (!Modifier.isStatic(f.getModifiers())) {
                elements++;
                f.setAccessible(true);
                if (!f.getType().isPrimitive()) {
                    count(f.get(thing));
                }
            }
        }
    }

    /** Each call once, the dear ones with as much as they take. */
    private static int callAll(WayMarks x, int turn) {
        int sum = x.post() + x.feed(0x00010005, 0x01020006, turn, 0, 0) + x.roads(20);
        sum += x.road(0, turn % 12, 3) ? 1 : 0;
        sum += x.cut(1, 2) ? 1 : 0;
        sum += x.reach(turn % 12, turn) ? 1 : 0;
        sum += x.price(turn % 12, turn) ? 1 : 0;
        sum += x.chance(turn % 12, turn) ? 1 : 0;
        sum += x.rule(turn % 5, 0) ? 1 : 0;
        sum += x.may(turn % 4, turn % 2 == 0);
        x.want(turn % 3 == 0);
        sum += x.way(0, 1) + x.of(1, 5) + x.answer(1, 2) + x.parts(3, 0, 1) + x.clash(3);
        sum += x.twins(0) + x.least() + x.every() + x.cheapest() + x.set() + x.shown() + x.pair(0);
        sum += x.greedy() + x.word(turn % 12, 1) + x.clear() + x.fits() + x.where(0) + x.against(0);
        sum += x.worst(4095) + x.next(4095) + x.mean(4095) + x.seek(1023) + x.tree();
        return sum + x.undo(turn % 9) + x.about(7);
    }

    private static void callsMakeNothing() {
        ThreadMXBean threads = (ThreadMXBean) ManagementFactory.getThreadMXBean();
        WayMarks x = Nets.empty(8);
        callAll(x, 0);
        long me = Thread.currentThread().getId();
        threads.getThreadAllocatedBytes(me);
        long before = threads.getThreadAllocatedBytes(me);
        for (int turn = 1; turn <= 12; turn++) {
            callAll(x, turn);
        }
        long made = threads.getThreadAllocatedBytes(me) - before;
        // The asking itself may make a little; one array of the class's own would be seen.
        due.is("12 turns of all calls make less than 200 bytes each (" + made + ")", made < 2400, true);
    }

    public static void main(String[] args) throws IllegalAccessException {
        count(new WayMarks());
        due.is("few objects (" + met.size() + ")", met.size() <= MOST_OBJECTS, true);
        due.is("few elements (" + elements + ")", elements <= MOST_ELEMENTS, true);
        callsMakeNothing();
        due.end();
    }
}
