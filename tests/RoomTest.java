import com.sun.management.ThreadMXBean;
import java.lang.management.ManagementFactory;
import java.lang.reflect.Array;
import java.lang.reflect.Field;
import java.lang.reflect.Modifier;
import java.util.ArrayDeque;
import java.util.Collections;
import java.util.Deque;
import java.util.IdentityHashMap;
import java.util.Set;

/** Rule 12: all calls of a run share one room, so that an object is small and its calls make nothing. */
public final class RoomTest {
    private static final Check CHECK = new Check("RoomTest");
    /** With the calls by which a scene is made these are fewer than 512. */
    private static final int ROUNDS = 6;
    /** The room of one run has some 600,000 objects, 7.3 million fields and elements. */
    private static final int MOST_OBJECTS = 6_000;
    private static final int MOST_PLACES = 73_000;
    /** What the machine itself may take meanwhile; each of the calls making one object would be more. */
    private static final int MOST_BYTES = 4_096;

    private int objects = 0;
    private int places = 0;

    public static void main(String[] args) throws IllegalAccessException {
        for (Scene scene : Scene.values()) {
            HandedDown x = scene.make();
            size(scene + " as it is made", x);
            makesNothing(scene, x);
            size(scene + " behind all its calls", x);
        }
        CHECK.close();
    }

    private static void size(String name, HandedDown x) throws IllegalAccessException {
        RoomTest counted = new RoomTest();
        counted.countAll(x);
        CHECK.due(name + " has few objects", counted.objects <= MOST_OBJECTS ? 0 : counted.objects, 0);
        CHECK.due(name + " has few fields and elements", counted.places <= MOST_PLACES ? 0 : counted.places, 0);
    }

    private void countAll(HandedDown x) throws IllegalAccessException {
        Set<Object> met = Collections.newSetFromMap(new IdentityHashMap<>());
        Deque<Object> open = new ArrayDeque<>();
        open.add(x);
        met.add(x);
        while (!open.isEmpty()) {
            Object one = open.remove();
            objects++;
            if (one.getClass().isArray()) {
                places += Array.getLength(one);
                for (int i = 0; i < Array.getLength(one) && !one.getClass().getComponentType().isPrimitive(); i++) {
                    meet(Array.get(one, i), met, open);
                }
                continue;
            }
            for (Field field : one.getClass().getDeclaredFields()) {
                if (!Modifier.isStatic(field.getModifiers())) {
                    places++;
                    if (!field.getType().isPrimitive()) {
                        field.setAccessible(true);
                        meet(field.get(one), met, open);
                    }
                }
            }
        }
    }

    private static void meet(Object one, Set<Object> met, Deque<Object> open) {
        if (one != null && met.add(one)) {
            open.add(one);
        }
    }

    private static void makesNothing(Scene scene, HandedDown x) {
        ThreadMXBean bean = (ThreadMXBean) ManagementFactory.getThreadMXBean();
        long thread = Thread.currentThread().getId();
        // What the machine loads by the first calls is not their own.
        calls(scene.make());
        bean.getThreadAllocatedBytes(thread);
        long before = bean.getThreadAllocatedBytes(thread);
        calls(x);
        long taken = bean.getThreadAllocatedBytes(thread) - before;
        CHECK.due(scene + ": its calls take no room", taken <= MOST_BYTES ? 0 : taken, 0);
    }

    /** Every call a few times, the dearest too. */
    private static void calls(HandedDown x) {
        for (int round = 0; round < ROUNDS; round++) {
            asked(x, round % 2);
            changed(x, round % 2);
        }
        told(x);
    }

    private static void asked(HandedDown x, int s) {
        boolean quick = s == 1;
        x.fault();
        x.child(0, 0);
        x.thing(0, 0);
        x.fits(0, 0);
        x.cold(s);
        x.deal(s, 0);
        x.spare(s);
        x.ahead(s, 4, quick, 0);
        x.strong(s, 4, quick);
        for (int t = 0; t < 10; t++) {
            x.pays(t, 4, quick, 0);
        }
        x.best(s, 4, quick, 0);
        x.wish(s, 4, quick, 0);
        x.swap();
        x.odds(s, 0);
        x.rows(0);
        x.rows(10);
        x.whose(0);
        x.whose(1);
        x.lend(0, s, 0);
        x.lend(1, s, 1);
        x.torn();
        x.count(3);
    }

    private static void changed(HandedDown x, int s) {
        x.slack(s);
        x.like(0, 0, 5);
        x.keep(s);
        x.wear(0, 0);
        x.dress(s);
        x.doff(0, s);
        x.winter();
        x.spring(s == 1);
        x.cut(0, 1);
        x.sew(s, 10);
        x.settle();
        x.mark(10);
        x.unmark(1);
        x.back(s);
        x.sheet(s, s, 4);
        x.lay(s, 0, 0);
        x.lay(s, 1, 9);
        x.read(s, s, 0, 2);
    }

    /** A text that is taken ("mark 9 ;") and one that is not; the last, since they tell all anew. */
    private static void told(HandedDown x) {
        x.end(0);
        x.feed(0x6d61726b2039203bL);
        x.end(8);
        x.text();
        x.feed(-1);
        x.text();
    }
}
