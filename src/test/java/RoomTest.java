import java.lang.management.ManagementFactory;
import java.lang.reflect.Array;
import java.lang.reflect.Field;
import java.lang.reflect.Modifier;
import java.util.ArrayDeque;
import java.util.IdentityHashMap;
import java.util.Map;

/** All calls of one run share a room of some 600,000 objects and 7.3 million fields and elements. */
public final class RoomTest {
    private static final Check C = new Check("RoomTest");

    public static void main(String[] args) throws Exception {
        sizeOfOne();
        callsMakeNothing();
        C.finish();
    }

    private static void sizeOfOne() throws Exception {
        Map<Object, Boolean> seen = new IdentityHashMap<>();
        ArrayDeque<Object> next = new ArrayDeque<>();
        next.add(new DawnTales());
        long places = 0;
        while (!next.isEmpty()) {
            Object o = next.remove();
            if (seen.put(o, true) != null) {
                continue;
            }
            if (o.getClass().isArray()) {
                places += Array.getLength(o);
                for (int i = 0; o instanceof Object[] && i < Array.getLength(o); i++) {
                    next.add(Array.get(o, i));
                }
                continue;
            }
            for (Class<?> c = o.getClass(); c != Object.class; c = c.getSuperclass()) {
                for (Field f : c.getDeclaredFields()) {
                    if (!Modifier.isStatic(f.getModifiers())) {
                        places++;
                        f.setAccessible(true);
                        if (!f.getType().isPrimitive()) {
                            next.add(f.get(o));
                        }
                    }
                }
            }
        }
        System.out.println("RoomTest: an object has " + seen.size() + " objects and arrays, " + places + " fields and elements");
        C.due("objects and arrays, for 512 of them", seen.size() * 512L <= 600_000 ? 1 : 0, 1);
        C.due("fields and elements, for 512 of them", places * 512L <= 7_300_000 ? 1 : 0, 1);
    }

    private static void callsMakeNothing() {
        com.sun.management.ThreadMXBean threads = (com.sun.management.ThreadMXBean) ManagementFactory.getThreadMXBean();
        long id = Thread.currentThread().getId();
        DawnTales x = Check.told("n 3 1 2;m 4;t 9 9;t 8 0;t 7 9;t 6 2;t 5 9;t 4 9;");
        long sum = everything(x) + threads.getThreadAllocatedBytes(id);
        long before = threads.getThreadAllocatedBytes(id);
        for (int i = 0; i < 6; i++) {
            sum += everything(x);
        }
        long made = threads.getThreadAllocatedBytes(id) - before;
        System.out.println("RoomTest: some 300 calls made " + made + " bytes" + (sum == 0 ? "." : ""));
        C.due("bytes made by calls", made <= 4096 ? 1 : 0, 1);
    }

    private static long everything(DawnTales x) {
        long sum = 0;
        String text = "n 3 1 2;m 4;t 9 9;t 8 0;";
        for (int i = 0; i < text.length(); i++) {
            sum += x.type(text.charAt(i));
        }
        sum += x.tales() + x.begins(0) + x.tells() + x.silent() + x.dawn() + x.keep(0) + x.undo() + x.back(0);
        sum += x.on() + x.by(21) + x.best(0) + x.fewest(2, 1) + x.mind(2, 0) + x.bars(1) + x.longer();
        sum += x.heard(1, 1) + x.orders(0) + x.surely(1) + x.forget() + x.odds(3, 3, 0) + x.mark(4, 0) + x.trace();
        return sum + x.tale(0, 2) + x.hours(7) + x.now(7) + x.count(0) + x.clear();
    }
}
