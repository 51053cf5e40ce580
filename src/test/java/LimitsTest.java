import com.sun.management.ThreadMXBean;
import java.lang.management.ManagementFactory;
import java.lang.reflect.InvocationTargetException;
import java.lang.reflect.Method;
import java.lang.reflect.Modifier;
import java.util.ArrayList;
import java.util.Arrays;
import java.util.Comparator;
import java.util.List;
import java.util.Random;

/** No call throws by itself, in any state and past the 512th call too; what is kept and made stays small. */
public final class LimitsTest {
    private static final Due due = new Due("LimitsTest");
    private static final int[] EDGES = {Integer.MIN_VALUE, Integer.MIN_VALUE + 1, -241, -32, -1, 0, 1, 2, 3, 5, 6, 7, 8, 16,
        19, 20, 21, 31, 32, 33, 63, 64, 65, 127, 128, 129, 239, 240, 241, 255, 256, 257, Integer.MAX_VALUE - 240,
        Integer.MAX_VALUE - 1, Integer.MAX_VALUE};

    public static void main(String[] args) throws ReflectiveOperationException {
        for (int seed = 0; seed < 40; seed++) {
            anyCalls(new Random(seed), 3000);
        }
        savesEnd();
        roomOfTheDearestRun();
        roomOfNewObjects();
        due.end();
    }

    private static List<Method> face() {
        List<Method> all = new ArrayList<>();
        for (Method method : DedupVault.class.getDeclaredMethods()) {
            if (Modifier.isPublic(method.getModifiers())) {
                all.add(method);
            }
        }
        // the machine tells them in no order of its own, and a walk must be the same each time
        all.sort(Comparator.comparing(Method::getName));
        return all;
    }

    private static void anyCalls(Random random, int calls) throws ReflectiveOperationException {
        List<Method> face = face();
        DedupVault x = new DedupVault();
        for (int i = 0; i < calls; i++) {
            if (random.nextInt(4) == 0) {
                x.clearDraft();
                for (int k = random.nextInt(4); k > 0; k--) {
                    x.append(random.nextInt(256), random.nextInt(256), 1 + random.nextInt(60));
                }
            }
            Method method = face.get(random.nextInt(face.size()));
            Object[] args = new Object[method.getParameterCount()];
            for (int k = 0; k < args.length; k++) {
                args[k] = random.nextBoolean() ? random.nextInt(6) : EDGES[random.nextInt(EDGES.length)];
            }
            call(x, method, args);
        }
    }

    private static void call(DedupVault x, Method method, Object[] args) throws ReflectiveOperationException {
        String what = method.getName() + Arrays.toString(args);
        try {
            Object answer = method.invoke(x, args);
            due.same(what + " answers a number", answer instanceof Number || answer instanceof Boolean, true);
        } catch (InvocationTargetException e) {
            Throwable thrown = e.getCause();
            boolean named = Arrays.asList(method.getExceptionTypes()).contains(thrown.getClass());
            due.same(what + " throws what it names: " + thrown, named, true);
            // an exception of the machine's own, or of the library's, has another class on top
            String top = thrown.getStackTrace().length == 0 ? "" : thrown.getStackTrace()[0].getClassName();
            due.sameText(what + " throws by itself", top, "DedupVault");
        }
    }

    /** What an object keeps must not grow for ever; it is past its 512th call when it refuses. */
    private static void savesEnd() {
        DedupVault x = new DedupVault();
        x.append(1, 1, 40);
        for (int i = 0; i < 512; i++) {
            due.same("save " + i, x.save(0), i);
            x.forget(0, i);
        }
        due.thrown("save 512", Due.STATE, () -> x.save(0));
        due.thrown("save of no file", Due.INDEX, () -> x.save(6));
        due.same("nothing saved by a throw", x.versions(), 0);
    }

    private static void roomOfTheDearestRun() {
        long before = made();
        DedupVault x = new DedupVault();
        Random random = new Random(7);
        // 7 calls a step; a step by 4 of multiples of 4 ends a chunk behind each eighth byte or soon
        for (int i = 0; i < 512 / 7; i++) {
            x.clearDraft();
            for (int k = 0; k < 4; k++) {
                x.append(random.nextInt(256), 4 * random.nextInt(64), 60);
            }
            x.save(0);
            x.forget(0, i);
        }
        due.same("a run with many new chunks (" + x.chunks() + ")", x.chunks() > 500, true);
        small("a run of new chunks", made() - before);
        before = made();
        // bytes that are multiples of 16 end a chunk behind each eighth one: a save has 30, the most there can be
        x.clearDraft();
        for (int k = 0; k < 240; k++) {
            x.insert(k, 16 * random.nextInt(16));
        }
        for (int i = 0; i < 256; i++) {
            x.forget(1, x.save(1));
        }
        due.same("chunks of a save", x.chunksOf(1, x.save(1)), 30);
        small("a run of saves", made() - before);
        before = made();
        for (int i = 0; i < 512; i++) {
            x.wouldStore();
        }
        small("a run of wouldStore", made() - before);
        before = made();
        for (int i = 0; i < 512; i++) {
            x.garbage();
            x.storedBytes();
            x.isStored(i);
        }
        small("a run of questions", made() - before);
        before = made();
        due.same("a collect of much", x.collect() > 1000, true);
        small("a collect of much", made() - before);
    }

    private static void roomOfNewObjects() {
        long before = made();
        int sum = 0;
        for (int i = 0; i < 1000; i++) {
            sum += new DedupVault().containers();
        }
        due.same("containers of new objects", sum, 1000);
        small("1000 new objects", made() - before);
    }

    /**
     * The room holds some 600,000 objects and 7.3 million fields and elements. An object takes 16 bytes at least, a field
     * or an element 4 (none of the class's arrays has smaller ones): so 8 MB are less than either.
     */
    private static void small(String what, long bytes) {
        due.same(what + " makes " + bytes + " bytes", bytes < 8_000_000L, true);
    }

    private static long made() {
        return ((ThreadMXBean) ManagementFactory.getThreadMXBean()).getThreadAllocatedBytes(Thread.currentThread().getId());
    }
}
