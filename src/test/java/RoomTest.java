import java.lang.management.ManagementFactory;
import java.lang.reflect.Array;
import java.lang.reflect.Field;
import java.lang.reflect.Modifier;
import java.util.IdentityHashMap;
import java.util.Map;

/** Rule 12 of ../shared/LANGUAGE.md: what an object is made of, and that no call makes anything more. */
public final class RoomTest {
    private static final Check CHECK = new Check("RoomTest");
    private static final int CALLS = 500;
    private static final String TEXT = "water wa 3 1; water wb 50 2; water wc 7 0; heir ha 2 3 40 30; heir hb 5 2 0 9; heir hc 1 9 5 700;"
        + "sends ha wa = if level < 9 * week then lot / 30 else (sent + 5) / (week - 2); sends hb wb = share; sends hc wc = 99 - salt;"
        + "dry = level / 4; basin 200; claim ca = 1 of 2 ha + 2 of 3 hb + 5 of 7 hc; seed 9;";

    public static void main(String[] args) throws Exception {
        Map<Object, Boolean> seen = new IdentityHashMap<>();
        long elements = made(new ThimbleSea(), seen);
        CHECK.due("a new object makes some 300 objects and arrays, not " + seen.size(), seen.size() <= 330, true);
        CHECK.due("a new object has some 11,000 fields and elements, not " + elements, elements <= 12000, true);
        // The first time, the machine makes what it needs itself.
        madeByCalls();
        CHECK.due("bytes made by " + CALLS + " calls", madeByCalls(), 0);
        CHECK.end();
    }

    /** Fields and elements of all that hangs on an object. */
    private static long made(Object object, Map<Object, Boolean> seen) {
        if (object == null || object instanceof String || seen.put(object, true) != null) {
            return 0;
        }
        long sum = 0;
        if (object.getClass().isArray()) {
            sum = Array.getLength(object);
            if (object instanceof Object[] parts) {
                for (Object part : parts) {
                    sum += made(part, seen);
                }
            }
            return sum;
        }
        for (Field field : object.getClass().getDeclaredFields()) {
            if (!Modifier.isStatic(field.getModifiers())) {
                sum++;
                field.trySetAccessible();
                try {
                    sum += field.getType().isPrimitive() ? 0 : made(field.get(object), seen);
                } catch (IllegalAccessException e) {
                    throw new IllegalStateException(e);
                }
            }
        }
        return sum;
    }

    private static long madeByCalls() {
        com.sun.management.ThreadMXBean threads = (com.sun.management.ThreadMXBean) ManagementFactory.getThreadMXBean();
        long thread = Thread.currentThread().getId();
        ThimbleSea sea = new ThimbleSea();
        int[] words = words();
        threads.getThreadAllocatedBytes(thread);
        long before = threads.getThreadAllocatedBytes(thread);
        for (int at = 0; at < words.length; at += 5) {
            sea.feed(words[at], words[at + 1], words[at + 2], words[at + 3], words[at + 4]);
        }
        sea.read();
        for (int call = 0; call < CALLS - words.length / 5; call++) {
            call(sea, call);
        }
        return threads.getThreadAllocatedBytes(thread) - before;
    }

    private static int[] words() {
        int[] words = new int[(TEXT.length() + 19) / 20 * 5];
        for (int i = 0; i < words.length * 4; i++) {
            words[i / 4] = words[i / 4] << 8 | (i < TEXT.length() ? TEXT.charAt(i) : ' ');
        }
        return words;
    }

    private static void call(ThimbleSea sea, int call) {
        switch (call % 32) {
            case 0: sea.run(call % 3 + 1); break;
            case 1: sea.heir(call % 4, call % 6); break;
            case 2: sea.drops(call % 4, -1); break;
            case 3: sea.salt(); break;
            case 4: sea.owns(1, false); break;
            case 5: sea.claim(0, true); break;
            case 6: sea.ranked(0); break;
            case 7: sea.tells(call % 3); break;
            case 8: sea.merge(call % 3, (call + 1) % 3); break;
            case 9: sea.split(call % 3, (call + 1) % 3, 2, 3); break;
            case 10: sea.spoon(1); break;
            case 11: sea.undo(); break;
            case 12: sea.enough(150); break;
            case 13: sea.salty(9000); break;
            case 14: sea.crossed(2, 3, 0); break;
            case 15: sea.league(); break;
            case 16: sea.power(0); break;
            case 17: sea.without(0, 5, 1); break;
            case 18: sea.asked(call, 0); break;
            case 19: sea.gives(call, 1); break;
            case 20: sea.thimble(60, call * 3, call / 9); break;
            case 21: sea.surely(60, call * 3, call / 9); break;
            case 22: sea.firstRow(60, call * 3, call / 9, 1); break;
            case 23: sea.tell(call % 20, call); break;
            case 24: sea.forged(1); break;
            case 25: sea.explains(1, -1); break;
            case 26: sea.hold(call % 3); break;
            case 27: sea.restore(call % 3); break;
            case 28: sea.count(call % 13); break;
            case 29: sea.back(0); break;
            case 30: sea.place(); break;
            default: sea.forget(); break;
        }
    }
}
