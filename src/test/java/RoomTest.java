import java.lang.management.ManagementFactory;
import java.lang.reflect.Array;
import java.lang.reflect.Field;
import java.lang.reflect.Modifier;
import java.util.IdentityHashMap;
import java.util.Map;

/** All calls of a run live in one room: what an object is made of is counted, and calls make nothing more. */
public final class RoomTest {
    private static final int MOST_OBJECTS = 150;
    private static final int MOST_PLACES = 5000;

    private int places;
    private final Map<Object, Object> seen = new IdentityHashMap<>();

    public static void main(String[] args) throws Exception {
        oneObject();
        callsMakeNothing();
        Check.close();
    }

    private static void oneObject() throws Exception {
        RoomTest room = new RoomTest();
        room.count(new WineSpoon());
        Check.isTrue("objects and arrays: " + room.seen.size(), room.seen.size() <= MOST_OBJECTS);
        Check.isTrue("fields and elements: " + room.places, room.places <= MOST_PLACES);
    }

    private void count(Object it) throws Exception {
        if (it == null || it instanceof String || seen.put(it, it) != null) {
            return;
        }
        if (it.getClass().isArray()) {
            places += Array.getLength(it);
            for (int k = 0; k < Array.getLength(it) && !it.getClass().getComponentType().isPrimitive(); k++) {
                count(Array.get(it, k));
            }
            return;
        }
        for (Field field : it.getClass().getDeclaredFields()) {
            if (!Modifier.isStatic(field.getModifiers())) {
                places++;
                field.setAccessible(true);
                if (!field.getType().isPrimitive()) {
                    count(field.get(it));
                }
            }
        }
    }

    /** Some hundred calls of every kind, the dearest ones too. */
    private static long calls(WineSpoon x) {
        long sum = 0;
        for (int g = 0; g < 6; g++) {
            sum += x.glass(60) + x.fill(g, g % 4, 20) + x.wine(50, g, 20) + x.tasting(g, g % 4, 100);
        }
        sum += x.size(1) + x.size(2) + x.size(3) + x.image(0) + x.image(1);
        for (int k = 0; k < 20; k++) {
            // "lick 1 from 0 if 1=1"
            sum += x.feed(0x6c69636b, 0x20312066, 0x726f6d20, 0x30206966, 0x20313d31) + x.evening();
            sum += x.feed(0x00010203, 4, 5, 6, 7) + x.row() + x.spoon(k % 6, 3, 1) + x.lick(k % 6, 1) + x.night(k, 20);
        }
        for (int k = 0; k < 3; k++) {
            sum += x.fits(3, -1, 0) + x.reach(0, 3, 77, 0, -1, 0) + x.mix(20, 50, 6) + x.cards(20, 20, 14, 7, 0);
            sum += x.rinse(9, 60, 6, 7) + x.cask(60, 1, 6, 1) + x.both(60, 1, 6, 1) + x.rounds(60, 1, 0) + x.guests(60, 1, 0);
        }
        return sum + x.back(0) + x.back(1) + x.wash() + x.drink(0) + x.empty(0) + x.count(0) + x.status();
    }

    private static void callsMakeNothing() {
        if (!(ManagementFactory.getThreadMXBean() instanceof com.sun.management.ThreadMXBean bean)) {
            return;
        }
        WineSpoon warm = new WineSpoon();
        WineSpoon x = new WineSpoon();
        long first = calls(warm);
        long id = Thread.currentThread().getId();
        bean.getThreadAllocatedBytes(id);
        long ahead = bean.getThreadAllocatedBytes(id);
        long second = calls(x);
        long made = bean.getThreadAllocatedBytes(id) - ahead;
        Check.due("the same calls, the same answers", second, first);
        Check.isTrue("bytes made by calls: " + made, made < 4096);
    }
}
