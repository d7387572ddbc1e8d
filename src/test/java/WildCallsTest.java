import java.lang.reflect.InvocationTargetException;
import java.lang.reflect.Method;
import java.lang.reflect.Modifier;
import java.util.ArrayList;
import java.util.Comparator;
import java.util.List;
import java.util.Random;

/**
 * Runs of 512 calls with arguments of all kinds, most of them edges: a call throws nothing but the
 * very exceptions that the document lists for it, never one that the machine makes.
 */
public final class WildCallsTest {
    private static final int RUNS = 400;
    private static final int CALLS = 512;
    private static final long[] EDGES = {
        Long.MIN_VALUE, Integer.MIN_VALUE, -65536, -41, -40, -21, -20, -1, 0, 1, 2, 3, 5, 6, 7, 8, 15, 16,
        19, 20, 39, 40, 41, 59, 60, 61, 90, 91, 149, 150, 255, 256, 998, 999, 1000, 65535, 65536,
        Integer.MAX_VALUE, 4294967295L, 4294967296L, Long.MAX_VALUE};
    private static final char[] LETTERS = {'f', 'n', 'w', 'r', 'p', 'm', 'l', 'c', 'x', 0, '\uffff'};

    private final Random random;
    private final Shingletrack disk = new Shingletrack();
    private final List<Method> calls = new ArrayList<>();

    private WildCallsTest(long seed) {
        random = new Random(seed);
        for (Method method : Shingletrack.class.getDeclaredMethods()) {
            if (Modifier.isPublic(method.getModifiers())) {
                calls.add(method);
            }
        }
        calls.sort(Comparator.comparing(Method::getName));
        // A disk on which nothing is written would refuse most calls.
        for (Method method : List.copyOf(calls)) {
            for (int i = 0; i < 6 && List.of("write", "harm").contains(method.getName()); i++) {
                calls.add(method);
            }
        }
    }

    public static void main(String[] args) throws Exception {
        for (long seed = 0; seed < RUNS; seed++) {
            WildCallsTest run = new WildCallsTest(seed);
            for (int i = 1; i < CALLS; i++) {
                run.step("run " + seed);
            }
            Checks.same("run " + seed + " sound", "true", String.valueOf(run.disk.isSound()));
        }
        Checks.finish("WildCallsTest");
    }

    private void step(String run) throws IllegalAccessException {
        Method call = calls.get(random.nextInt(calls.size()));
        Class<?>[] types = call.getParameterTypes();
        Object[] arguments = new Object[types.length];
        for (int i = 0; i < types.length; i++) {
            arguments[i] = argument(types[i]);
        }
        try {
            call.invoke(disk, arguments);
        } catch (InvocationTargetException e) {
            Class<?> thrown = e.getCause().getClass();
            boolean isListed = List.of(call.getExceptionTypes()).contains(thrown);
            Checks.same(run + ": " + call.getName() + " throws " + thrown, "true", String.valueOf(isListed));
        }
    }

    private Object argument(Class<?> type) {
        if (type == boolean.class) {
            return random.nextInt(4) == 0;
        }
        if (type == char.class) {
            return LETTERS[random.nextInt(LETTERS.length)];
        }
        long number = random.nextBoolean() ? random.nextInt(60) : EDGES[random.nextInt(EDGES.length)];
        if (type == long.class) {
            return number;
        }
        return (int) number;
    }
}
