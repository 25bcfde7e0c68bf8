import java.lang.management.ManagementFactory;
import java.lang.reflect.Array;
import java.lang.reflect.Field;
import java.lang.reflect.Modifier;
import java.util.IdentityHashMap;
import java.util.Map;

/** All calls of a run live in one room: an object takes its part of it once, and no call takes more. */
public final class RoomTest {
    private static final int MOST_OBJECTS = 200;
    private static final int MOST_ELEMENTS = 14_000;
    private static final int RUNS = 16;
    // what the machine itself may make while it measures; the least object, made in each run, is more
    private static final long SLACK = 128;

    private final Due due = new Due();
    private int objects = 0;
    private int elements = 0;

    public static void main(String[] args) throws Exception {
        RoomTest test = new RoomTest();
        test.aNewObjectIsSmall();
        test.noCallMakesObjects();
        test.due.end("RoomTest");
    }

    private void aNewObjectIsSmall() throws Exception {
        walk(new SkinTwists(), new IdentityHashMap<>());
        due.is("at most " + MOST_OBJECTS + " objects: " + objects, objects <= MOST_OBJECTS ? 1 : 0, 1);
        due.is("at most " + MOST_ELEMENTS + " elements: " + elements, elements <= MOST_ELEMENTS ? 1 : 0, 1);
    }

    private void walk(Object at, Map<Object, Object> seen) throws Exception {
        if (at == null || seen.put(at, at) != null) {
            return;
        }
        objects++;
        if (at.getClass().isArray()) {
            elements += Array.getLength(at);
            for (int k = 0; at instanceof Object[] && k < Array.getLength(at); k++) {
                walk(Array.get(at, k), seen);
            }
            return;
        }
        for (Field field : at.getClass().getDeclaredFields()) {
            if (!Modifier.isStatic(field.getModifiers())) {
                elements++;
                field.setAccessible(true);
                if (!field.getType().isPrimitive()) {
                    walk(field.get(at), seen);
                }
            }
        }
    }

    private void noCallMakesObjects() {
        if (!(ManagementFactory.getThreadMXBean() instanceof com.sun.management.ThreadMXBean threads)
                || !threads.isThreadAllocatedMemorySupported()) {
            System.out.println("RoomTest: this machine does not tell what is made");
            return;
        }
        long sum = callAll(new SkinTwists());
        long least = Long.MAX_VALUE;
        for (int time = 0; time < 3; time++) {
            least = Math.min(least, bytesMade(threads, sum));
        }
        due.is("bytes that calls make: " + least, least <= SLACK ? 1 : 0, 1);
    }

    private long bytesMade(com.sun.management.ThreadMXBean threads, long sum) {
        SkinTwists[] skins = new SkinTwists[RUNS];
        for (int k = 0; k < RUNS; k++) {
            skins[k] = new SkinTwists();
        }
        long self = Thread.currentThread().getId();
        threads.getThreadAllocatedBytes(self);
        long before = threads.getThreadAllocatedBytes(self);
        int unlike = 0;
        for (int k = 0; k < RUNS; k++) {
            unlike += callAll(skins[k]) == sum ? 0 : 1;
        }
        long made = threads.getThreadAllocatedBytes(self) - before;
        due.is("runs that answer otherwise than the first", unlike, 0);
        return made;
    }

    /** Each call, some often, the dear ones with the dearest arguments; the sum of the answers. */
    private static long callAll(SkinTwists x) {
        long sum = x.skin(3);
        for (int r = 0; r < 12; r++) {
            for (int k = 0; k < 20 + r; k++) {
                sum += x.letter((k * 5 + r) % 6 + 1);
            }
            sum += x.ring();
        }
        sum += x.drop() + x.fault() + x.heap(0x7ff);
        sum += x.feed(8, 0x6131623163316232L) + x.feed(4, 0x6332622dL) + x.read(0) + x.fault();
        sum += x.feed(8, 0x6131623163316232L) + x.feed(4, 0x63326233L) + x.read(0) + x.fault();
        sum += x.feed(6, 0x613162316131L) + x.read(1);
        sum += x.chain(2, 0, 1) + x.turn(3, 2) + x.chain(4, 2, 3);
        for (int p = 0; p < 5; p++) {
            sum += x.twist(p, 0) + x.image(p, 3, -1) + x.carried(p, 0, 1) + x.meetsThen(p, 0, 1);
            sum += x.same(p, 4) + x.turns(p) + x.order(p, 24) + x.table(p, 1, 2) + x.character(p, 4);
            sum += x.length(p, 24) + x.sort(p, 12) + x.fewest(p, 3, 0) + x.carry(0, p, 3, 0);
            sum += x.told(p, 2) + x.at(p, 0) + x.meets(p, 0) + x.one(p, 1) + x.law(p, 4) + x.count(p);
        }
        return sum;
    }
}
