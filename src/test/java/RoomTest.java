import java.lang.management.ManagementFactory;
import java.lang.reflect.Array;
import java.lang.reflect.Field;
import java.lang.reflect.Modifier;
import java.util.IdentityHashMap;
import java.util.Map;

/** The room that an object takes: all of it from its constructor, none from its calls; and use beyond 512 calls. */
public final class RoomTest {
    private static final Due d = new Due();
    private static final com.sun.management.ThreadMXBean THREADS =
        (com.sun.management.ThreadMXBean) ManagementFactory.getThreadMXBean();

    private static final long[] CAT = texts("cat");
    private static final long[] RIGHT = texts("0:0=cat+1=right@7");
    private static final long[] WRONG = texts("1:0=cow+1=wrong@60");

    public static void main(String[] args) throws Exception {
        d.on("room");
        objectsAndElements();
        callsMakeNothing();
        goesOnBeyondItsCalls();
        d.end();
    }

    private static long[] texts(String text) {
        long[] parts = new long[(text.length() + 7) / 8];
        for (int i = 0; i < parts.length; i++) {
            parts[i] = Due.packed(text.substring(8 * i, Math.min(text.length(), 8 * i + 8)));
        }
        return parts;
    }

    private static void objectsAndElements() throws IllegalAccessException {
        BentWords x = new BentWords();
        long[] made = counted(x);
        System.out.println("an object takes " + made[0] + " objects and arrays, " + made[1] + " fields and elements");
        d.due("objects and arrays, at most 600", Math.max(600, made[0]), 600);
        d.due("fields and elements, at most 10000", Math.max(10_000, made[1]), 10_000);
        use(x, 60);
        long[] used = counted(x);
        d.due("objects and arrays behind calls", used[0], made[0]);
        d.due("fields and elements behind calls", used[1], made[1]);
    }

    private static long[] counted(Object root) throws IllegalAccessException {
        Map<Object, Boolean> seen = new IdentityHashMap<>();
        long[] sums = new long[2];
        walk(root, seen, sums);
        return sums;
    }

    private static void walk(Object one, Map<Object, Boolean> seen, long[] sums) throws IllegalAccessException {
        if (one == null || seen.put(one, true) != null) {
            return;
        }
        sums[0]++;
        if (one.getClass().isArray()) {
            sums[1] += Array.getLength(one);
            for (int i = 0; i < Array.getLength(one) && !one.getClass().getComponentType().isPrimitive(); i++) {
                walk(Array.get(one, i), seen, sums);
            }
            return;
        }
        for (Field field : one.getClass().getDeclaredFields()) {
            if (!Modifier.isStatic(field.getModifiers())) {
                field.setAccessible(true);
                sums[1]++;
                if (!field.getType().isPrimitive()) {
                    walk(field.get(one), seen, sums);
                }
            }
        }
    }

    private static void callsMakeNothing() {
        use(new BentWords(), 60);
        BentWords x = new BentWords();
        THREADS.getCurrentThreadAllocatedBytes();
        long before = THREADS.getCurrentThreadAllocatedBytes();
        use(x, 60);
        long made = THREADS.getCurrentThreadAllocatedBytes() - before;
        // A call that made anything each time would be far above this.
        d.due("bytes that calls make, at most 900", Math.max(900, made), 900);
    }

    private static void put(BentWords x, long[] parts) {
        for (int i = 0; i < parts.length; i++) {
            x.put(parts[i]);
        }
    }

    /** Every method, rounds times. */
    private static void use(BentWords x, int rounds) {
        put(x, CAT);
        x.know(0);
        x.set(BentWords.AGREE, 400);
        for (int i = 0; i < rounds; i++) {
            x.add(3);
            put(x, RIGHT);
            x.fault();
            x.answer();
            put(x, WRONG);
            x.answer();
            x.answersFor(0, 1);
            x.ifVoted(0, 1, 9);
            x.vote(1, 0, 4);
            x.word(1, 5);
            x.solver(1, 3);
            x.count(8);
            x.lacking(1);
            x.mostMissed();
            x.nearest();
            x.save(i & 1);
            x.bend(2, 4);
            x.drop(2);
            x.trust(3, i);
            x.undo();
            x.restore(i & 1);
            x.wipe();
        }
    }

    /** What later calls answer is free, but none may throw. */
    private static void goesOnBeyondItsCalls() {
        BentWords x = new BentWords();
        put(x, CAT);
        x.know(0);
        x.set(BentWords.AGREE, 400);
        x.set(BentWords.LEAD, 200);
        for (int i = 0; i < 12; i++) {
            x.add(9);
        }
        for (int i = 0; i < 20_000; i++) {
            String letters = "" + (char) ('a' + i % 26) + (char) ('a' + i / 26 % 26);
            put(x, texts(i % 6 + ":0=cat+" + (1 + i % 11) + "=" + letters + "@9"));
            x.answer();
            x.ifVoted(i % 6, 1 + i % 11, 9);
            x.answersFor(i % 6, 1 + i % 11);
            x.vote(1 + i % 11, i % 200, 2);
            x.nearest();
            x.save(i & 1);
            x.wipe();
            if (i % 1000 == 999) {
                x.restore(i / 1000 & 1);
                x.undo();
                x.drop(1 + i / 1000 % 5);
                x.bend(3, 9);
                x.add(9);
            }
        }
        d.due("count(6)", x.count(6), 12);
    }
}
