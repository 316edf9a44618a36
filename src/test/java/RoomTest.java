import java.lang.management.ManagementFactory;
import java.lang.reflect.Array;
import java.lang.reflect.Field;
import java.lang.reflect.Modifier;
import java.util.ArrayDeque;
import java.util.Deque;
import java.util.IdentityHashMap;
import java.util.Map;

/** An object is small, and its calls make nothing: all of one run stands in one room. */
public final class RoomTest {
    private static final int MOST_CELLS = 20000;
    private static final long MOST_BYTES_OF_CALLS = 400_000;

    public static void main(String[] args) throws IllegalAccessException {
        BeltRounds x = new BeltRounds();
        long cells = cellsOf(x);
        Check.holds("fields and elements of an object: " + cells, cells <= MOST_CELLS);
        // Once, on another object, to load what the machine itself needs; once to count.
        dearCalls(new BeltRounds());
        com.sun.management.ThreadMXBean counter =
                (com.sun.management.ThreadMXBean) ManagementFactory.getThreadMXBean();
        long before = counter.getThreadAllocatedBytes(Thread.currentThread().getId());
        dearCalls(x);
        long made = counter.getThreadAllocatedBytes(Thread.currentThread().getId()) - before;
        Check.holds("bytes that 512 calls make: " + made, made <= MOST_BYTES_OF_CALLS);
        Check.same("cellsOf() behind the calls", cellsOf(x), cells);
        Check.end("RoomTest");
    }

    private static void dearCalls(BeltRounds x) {
        StringBuilder text = new StringBuilder();
        for (int i = 0; i < 12; i++) {
            text.append("wrestler w").append(i).append(" strength ").append(100 - i).append(';');
        }
        text.append("rule red wins when round / 2 * 2 = round and not met or strength red < 95;");
        Check.teach(x, text.toString());
        for (int i = 0; i < 115; i++) {
            x.leaderAfter(10);
            x.pointsAfter(3, 10);
            x.digest();
            if (x.rounds() < 10) {
                x.pairRound();
                x.tellByRules();
            }
        }
    }

    static long cellsOf(Object first) throws IllegalAccessException {
        Map<Object, Boolean> seen = new IdentityHashMap<>();
        Deque<Object> open = new ArrayDeque<>();
        open.add(first);
        long cells = 0;
        while (!open.isEmpty()) {
            Object o = open.remove();
            if (seen.put(o, true) != null) {
                continue;
            }
            if (o.getClass().isArray()) {
                cells += Array.getLength(o);
                continue;
            }
            for (Field f : o.getClass().getDeclaredFields()) {
                if (!Modifier.isStatic(f.getModifiers())) {
                    cells++;
                    f.setAccessible(true);
                    if (!f.getType().isPrimitive() && f.get(o) != null) {
                        open.add(f.get(o));
                    }
                }
            }
        }
        return cells;
    }
}
