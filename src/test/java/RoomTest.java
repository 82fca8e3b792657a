import java.lang.reflect.Array;
import java.lang.reflect.Field;
import java.lang.reflect.Modifier;
import java.util.IdentityHashMap;
import java.util.Map;
import java.util.Random;

/** Room: an object keeps to its rows, so all objects of a run fit in 600,000 rows and 7.3 million elements. */
public final class RoomTest {
    private static final Check check = new Check("RoomTest");
    private static final int MOST_OBJECTS = 100;
    private static final int MOST_ELEMENTS = 7000;
    private static final int SLACK = 1000;

    public static void main(String[] args) throws IllegalAccessException {
        GuildHouse house = new GuildHouse();
        long[] before = room(house);
        check.yes("few objects: " + before[0], before[0] <= MOST_OBJECTS);
        check.yes("few elements: " + before[1], before[1] <= MOST_ELEMENTS);
        use(house);
        long[] behind = room(house);
        check.same("objects after the calls", behind[0], before[0]);
        check.same("elements after the calls", behind[1], before[1]);
        long bytes = bytesMade(house);
        check.yes("calls make no objects: " + bytes + " bytes", bytes <= SLACK);
        check.finish();
    }

    private static void use(GuildHouse house) {
        Random random = new Random(1);
        for (int i = 0; i < 30; i++) {
            house.person(i - 1, -1);
            house.master(i % 20);
            house.days(random.nextInt(50));
            house.term(i, (i + 7) % 30, 0, house.count(0));
            house.give(i, 1, 1);
            Check.statute(house, "(y>0|k=1)&d<99999|f=1", i);
            house.number(i, i);
            house.hire(i % 7, i);
            house.piece(i, i);
            house.mark(i, i % 3, i % 4, 5);
        }
        house.death(0, 1);
    }

    /** The last time alone counts, as all classes are loaded by then. */
    private static long bytesMade(GuildHouse house) {
        var threads = (com.sun.management.ThreadMXBean) java.lang.management.ManagementFactory.getThreadMXBean();
        long made = 0;
        for (int time = 0; time < 3; time++) {
            long before = threads.getCurrentThreadAllocatedBytes();
            callDearest(house);
            made = threads.getCurrentThreadAllocatedBytes() - before;
        }
        return made;
    }

    private static void callDearest(GuildHouse house) {
        int now = house.count(0);
        for (int i = -1; i < 30; i++) {
            house.may(i, now, now);
            house.value(i, 0, now, now);
            house.value(i, 6, now, now);
            house.value(i, 4, now, now);
            house.lawful(i);
            house.piece(i, i);
            house.mark(0, i, 0, 5);
            house.feed('y' << 24 | '>' << 16);
            house.fault();
            house.force(now, i);
            house.kin(i, 3);
            house.told(i, 2);
        }
    }

    /** How many objects and arrays, and how many fields and elements, hang on an object. */
    private static long[] room(Object object) throws IllegalAccessException {
        Map<Object, Boolean> seen = new IdentityHashMap<>();
        long elements = count(object, seen);
        return new long[] {seen.size(), elements};
    }

    private static long count(Object object, Map<Object, Boolean> seen) throws IllegalAccessException {
        if (object == null || seen.put(object, true) != null) {
            return 0;
        }
        if (object.getClass().isArray()) {
            return Array.getLength(object);
        }
        long elements = 0;
        for (Field field : object.getClass().getDeclaredFields()) {
            if (!Modifier.isStatic(field.getModifiers())) {
                elements++;
                field.setAccessible(true);
                elements += field.getType().isPrimitive() ? 0 : count(field.get(object), seen);
            }
        }
        return elements;
    }
}
