import java.lang.reflect.Array;
import java.lang.reflect.Field;
import java.lang.reflect.Modifier;
import java.util.ArrayDeque;
import java.util.Deque;
import java.util.IdentityHashMap;
import java.util.Map;

/** How much room one object takes, and that no call takes more: rows are made in constructors. */
public final class RoomTest {
    private static final int MOST_OBJECTS = 400;
    private static final int MOST_ELEMENTS = 30000;

    private static int objects;
    private static long elements;

    public static void main(String[] args) throws IllegalAccessException {
        Bench b = new Bench();
        count(b.object);
        int atFirst = objects;
        long elementsAtFirst = elements;
        System.out.println(atFirst + " objects, " + elementsAtFirst + " fields and elements");
        if (atFirst > MOST_OBJECTS || elementsAtFirst > MOST_ELEMENTS) {
            Bench.fail("one object takes too much room");
        }
        allCalls(b);
        count(b.object);
        Bench.same(objects, atFirst, "objects behind all calls");
        Bench.same(elements, elementsAtFirst, "fields and elements behind all calls");
        garbage();
        Bench.end();
    }

    private static void allCalls(Bench b) {
        b.load("plate a square 17;plate b row 17;plate c both b b;plate d neg c;source 3 4 99;"
            + "source 5 6 77;lost 3 3;lost 4 4;stray 1 1 9;back 3;");
        MaskBench m = b.object;
        for (int k = 0; k < 4; k++) {
            m.plate(k, 5);
            m.cell(k, 1, 0, 2);
            m.differences(k, 2);
            m.window(k, 0, 0, 99, 99);
            m.alike(k, 0);
            m.use(k);
            m.keep();
            m.add(0, k, k, 5);
            m.add(2, k, k, 5);
            m.lose(9, k);
            m.light(k);
            m.slide(1, 1);
            m.at(0, 0, 3);
            m.at(0, 0, 4);
            for (int what = 0; what <= 7; what++) {
                m.all(what);
            }
            m.peak(0);
            m.found(0, 0);
            m.frames(20, 1, 0, 0);
            m.filled(0);
            m.coarse(17, 0);
            m.anti(0, 0);
            m.match(0);
            m.minus(0, 0);
            m.shots(500, 1, 3);
            m.best(0);
            m.worst(0);
            m.heal(0);
            m.drop(0, 0);
            m.undo();
            m.print();
            m.out(0);
        }
    }

    private static void count(Object root) throws IllegalAccessException {
        objects = 0;
        elements = 0;
        Map<Object, Boolean> seen = new IdentityHashMap<>();
        Deque<Object> open = new ArrayDeque<>();
        seen.put(root, true);
        open.add(root);
        while (!open.isEmpty()) {
            Object o = open.remove();
            objects++;
            if (o.getClass().isArray()) {
                int n = Array.getLength(o);
                elements += n;
                for (int i = 0; i < n && !o.getClass().getComponentType().isPrimitive(); i++) {
                    visit(Array.get(o, i), seen, open);
                }
            } else {
                for (Field f : o.getClass().getDeclaredFields()) {
                    if (!Modifier.isStatic(f.getModifiers())) {
                        elements++;
                        f.setAccessible(true);
                        if (!f.getType().isPrimitive()) {
                            visit(f.get(o), seen, open);
                        }
                    }
                }
            }
        }
    }

    private static void visit(Object o, Map<Object, Boolean> seen, Deque<Object> open) {
        if (o != null && seen.put(o, true) == null) {
            open.add(o);
        }
    }

    /** What calls make and throw away counts, too: here it is none at all. */
    private static void garbage() {
        java.lang.management.ThreadMXBean bean =
            java.lang.management.ManagementFactory.getThreadMXBean();
        if (!(bean instanceof com.sun.management.ThreadMXBean)) {
            return;
        }
        com.sun.management.ThreadMXBean counter = (com.sun.management.ThreadMXBean) bean;
        if (!counter.isThreadAllocatedMemorySupported()) {
            return;
        }
        long id = Thread.currentThread().getId();
        Bench b = new Bench();
        allCalls(b);
        int[][] feeds = Bench.feeds("plate a row 7;plate b neg a;source 1 1 1;lost 1 1;use b;");
        int n = 57;
        long before = counter.getThreadAllocatedBytes(id);
        for (int i = 0; i < 20; i++) {
            b.object.worst(0);
            b.object.filled(0);
            b.object.best(0);
            b.object.shots(500, 1, 3);
            b.object.print();
            b.object.lose(i, 50);
            b.object.undo();
        }
        for (int[] five : feeds) {
            b.object.feed(five[0], five[1], five[2], five[3], five[4]);
        }
        b.object.load(n);
        long made = counter.getThreadAllocatedBytes(id) - before;
        if (made > 20000) {
            Bench.fail("calls made " + made + " bytes of objects");
        }
    }
}
