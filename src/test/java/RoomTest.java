import java.lang.management.ManagementFactory;
import java.lang.reflect.Array;
import java.lang.reflect.Field;
import java.lang.reflect.Modifier;
import java.util.ArrayDeque;
import java.util.Collections;
import java.util.Deque;
import java.util.IdentityHashMap;
import java.util.Set;

/** How much room an object takes, and that its calls take none. */
final class RoomTest {
    public static void main(String[] args) throws IllegalAccessException {
        Check c = new Check();
        size(c);
        calls(c);
        c.end("RoomTest");
    }

    /** Objects, arrays, and all their fields and elements. */
    private static void size(Check c) throws IllegalAccessException {
        Set<Object> seen = Collections.newSetFromMap(new IdentityHashMap<>());
        Deque<Object> open = new ArrayDeque<>();
        open.add(new NinthDay());
        int parts = 0;
        while (!open.isEmpty()) {
            Object o = open.remove();
            if (!seen.add(o)) {
                continue;
            }
            if (o.getClass().isArray()) {
                parts += Array.getLength(o);
                continue;
            }
            for (Field f : o.getClass().getDeclaredFields()) {
                if (Modifier.isStatic(f.getModifiers())) {
                    continue;
                }
                parts++;
                f.setAccessible(true);
                if (!f.getType().isPrimitive() && f.get(o) != null) {
                    open.add(f.get(o));
                }
            }
        }
        System.out.println("a NinthDay: " + seen.size() + " objects and arrays, " + parts + " fields and elements");
        c.due("few objects", seen.size() <= 100);
        c.due("few fields and elements", parts <= 1500);
    }

    private static void calls(Check c) {
        NinthDay x = Check.of("w093 r505 s549 m900 h720 f803");
        Check.fill(x, 0, 1, 5, 3, 7);
        long sum = 0;
        for (int k = 0; k < 200; k++) {
            sum += round(x, k);
        }
        com.sun.management.ThreadMXBean threads =
                (com.sun.management.ThreadMXBean) ManagementFactory.getThreadMXBean();
        threads.getCurrentThreadAllocatedBytes();
        long before = threads.getCurrentThreadAllocatedBytes();
        for (int k = 0; k < 1000; k++) {
            sum += round(x, k);
        }
        long used = threads.getCurrentThreadAllocatedBytes() - before;
        c.due("1000 rounds of all calls take no room (" + used + " bytes, " + sum + ")", used < 1000);
    }

    private static long round(NinthDay x, int k) {
        long sum = x.row(1, k % 41) + x.lay(1, 0, k) + x.at(1, 1) + x.mean(1) + x.copy(0, 0, 1, 0, 2) + x.tear(1);
        sum += x.text(1, k % 61) + x.put(1, 0, k) + x.fault(1) + x.fault(0) + x.year(0) + x.deed(k % 5, k % 8);
        sum += x.mark(0, 1) + x.day(4, 2) + x.drop(1) + x.will(8) + x.take(1) + x.keep(1) + x.lots(20, 1 + k);
        sum += x.undo(3) + x.on(1) + x.cost(31) + x.most() + x.rule(k % 4) + x.plan(k % 3, 2) + x.till(k % 4);
        sum += x.better(30) + x.least(k % 5, 30) + x.chain(k % 5, 30, k % 4) + x.fits(k % 20) + x.sure(k % 20);
        sum += x.ask(k % 20) + x.habits(k % 5, 0) + x.kinds(k % 5, 0) + x.test(k % 5, 0) + x.spare(k % 6);
        sum += x.tempt(k % 6) + x.odds(k % 6, k % 13) + x.mid(k % 13) + x.asked() + x.upper() + x.lower();
        return sum + x.count(k % 11) + x.finding() + x.findings(1 + k % 5) + x.digest();
    }
}
