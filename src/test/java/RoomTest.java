import com.sun.management.ThreadMXBean;
import java.lang.management.ManagementFactory;
import java.lang.reflect.Array;
import java.lang.reflect.Field;
import java.lang.reflect.Modifier;
import java.util.ArrayDeque;
import java.util.Collections;
import java.util.Deque;
import java.util.IdentityHashMap;
import java.util.Set;

/** All calls of a run live in one room: what a full object holds is small, and asking it makes nothing more. */
public final class RoomTest extends Asked {
    // The room has some 600,000 objects and arrays, and 7.3 million fields and elements.
    private static final long MOST_OBJECTS = 6000;
    private static final long MOST_ELEMENTS = 73000;
    // Asking is done so often that one object for each call would be far more than this.
    private static final int TIMES = 2000;
    private static final long MOST_BYTES = 8 * TIMES;

    private final Set<Object> seen = Collections.newSetFromMap(new IdentityHashMap<>());
    private final Deque<Object> open = new ArrayDeque<>();
    private long elements = 0;

    private RoomTest() {
    }

    public static void main(String[] args) throws IllegalAccessException {
        ChainFrames x = fullObject();
        RoomTest room = new RoomTest();
        room.walk(x);
        int before = room.seen.size();
        check.due("objects " + before + " are few", before <= MOST_OBJECTS ? 1 : 0, 1);
        check.due("elements " + room.elements + " are few", room.elements <= MOST_ELEMENTS ? 1 : 0, 1);
        ask(x);
        RoomTest after = new RoomTest();
        after.walk(x);
        check.due("objects after asking", after.seen.size(), before);
        check.due("elements after asking", (int) after.elements, (int) room.elements);
        askingMakesNothing(x);
        check.end();
    }

    /** As many CLASSES, METHODS, ARGUMENTS, OPS and GUARDS as there may be. */
    private static ChainFrames fullObject() {
        ChainFrames x = new ChainFrames();
        for (int c = 2; c < 16; c++) {
            check.due("cls", x.cls(0), c);
        }
        check.due("one more CLASS", x.cls(0), FULL);
        for (int m = 0; m < 6; m++) {
            check.due("method", x.method(0), m);
            for (int i = 0; i < 8; i++) {
                check.due("argument", x.argument(m, 12), i + 1);
            }
            writeOps(x, m);
            for (int g = 0; g < 6; g++) {
                check.due("guard", x.guard(m, 0, 36, 38, g), g);
            }
            check.due("THE WORK is right", x.compute(m), 0);
            check.due("THE WORK is long", x.told(m, 1) > 100 ? 1 : 0, 1);
        }
        return x;
    }

    /** A THING of another CLASS moves on by one LOCAL with each loop, so that THE WORK is long; a handler at 38. */
    private static void writeOps(ChainFrames x, int m) {
        for (int i = 1; i < 8; i++) {
            x.op(m, 6, i, 0);
            x.op(m, 7, i - 1, 0);
        }
        x.op(m, 13, 3, 0);
        x.op(m, 14, 0, 0);
        x.op(m, 15, 3, 0);
        x.op(m, 7, 7, 0);
        x.op(m, 0, 0, 0);
        x.op(m, 11, 0, 0);
        for (int place = x.count(2, m); place < 37; place++) {
            x.op(m, 12, place + 1, 0);
        }
        x.op(m, 23, 0, 0);
        x.op(m, 24, 0, 0);
        check.due("the last place", x.op(m, 23, 0, 0), 39);
        check.due("one more OP", x.op(m, 23, 0, 0), FULL);
    }

    private static int ask(ChainFrames x) {
        int sum = x.method(0) + x.cls(0) + x.fits(3, 2) + x.join(13, 14) + x.argument(0, 1);
        sum += x.op(0, 0, 0, 0) + x.guard(0, 0, 1, 0, 0) + x.count(2, 0);
        for (int m = 0; m < 6; m++) {
            sum += x.compute(m) + x.told(m, 1) + x.told(m, 3) + x.frame(m, 38, 8) + x.height(m, 38) + x.form(m, 38);
        }
        return sum;
    }

    private void walk(Object root) throws IllegalAccessException {
        visit(root);
        while (!open.isEmpty()) {
            Object o = open.pop();
            if (o.getClass().isArray()) {
                walkArray(o);
            } else {
                walkFields(o);
            }
        }
    }

    private void walkArray(Object array) {
        elements += Array.getLength(array);
        for (int i = 0; i < Array.getLength(array); i++) {
            if (!array.getClass().getComponentType().isPrimitive()) {
                visit(Array.get(array, i));
            }
        }
    }

    private void walkFields(Object o) throws IllegalAccessException {
        for (Field f : o.getClass().getDeclaredFields()) {
            if (Modifier.isStatic(f.getModifiers())) {
                continue;
            }
            elements++;
            if (!f.getType().isPrimitive()) {
                f.setAccessible(true);
                visit(f.get(o));
            }
        }
    }

    private void visit(Object o) {
        if (o != null && seen.add(o)) {
            open.push(o);
        }
    }

    private static void askingMakesNothing(ChainFrames x) {
        ThreadMXBean bean = (ThreadMXBean) ManagementFactory.getThreadMXBean();
        if (!bean.isThreadAllocatedMemorySupported()) {
            return;
        }
        long thread = Thread.currentThread().getId();
        int sum = ask(x);
        bean.getThreadAllocatedBytes(thread);
        long before = bean.getThreadAllocatedBytes(thread);
        for (int i = 0; i < TIMES; i++) {
            sum -= ask(x) - ask(x);
        }
        long made = bean.getThreadAllocatedBytes(thread) - before;
        check.due("sum of answers", sum, ask(x));
        check.due("bytes made by asking (" + made + ") are none for a call", made < MOST_BYTES ? 1 : 0, 1);
    }
}
