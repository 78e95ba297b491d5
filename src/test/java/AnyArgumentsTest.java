import java.lang.reflect.InvocationTargetException;
import java.lang.reflect.Method;
import java.lang.reflect.Modifier;
import java.util.ArrayList;
import java.util.Comparator;
import java.util.List;
import java.util.Random;

/** No call throws, whatever it is given, and the same calls give the same answers. */
public final class AnyArgumentsTest {
    private static final int[] ODD = {-1, 0, 1, 2, 3, 4, 5, 9, 10, 15, 16, 17, 60, 61, 98, 99, 100, 399, 400, 401, 998,
        999, 1000, 1000000, 1000001, -2, -99, -100, -1000, Integer.MAX_VALUE, Integer.MIN_VALUE, Integer.MAX_VALUE - 1};

    private AnyArgumentsTest() {
    }

    public static void main(String[] args) throws IllegalAccessException {
        List<Method> all = new ArrayList<>();
        for (Method m : OverByTens.class.getDeclaredMethods()) {
            if (Modifier.isPublic(m.getModifiers())) {
                all.add(m);
            }
        }
        all.sort(Comparator.comparing(Method::getName));
        Check.due("methods", all.size(), 35);
        for (int seed = 0; seed < 300; seed++) {
            long first = run(all, seed);
            Check.due("the same calls with seed " + seed, run(all, seed), first);
        }
        Check.end("AnyArgumentsTest");
    }

    private static long run(List<Method> all, int seed) throws IllegalAccessException {
        Random random = new Random(seed);
        OverByTens x = new OverByTens();
        long sum = 0;
        for (int i = 0; i < 512; i++) {
            Method m = random.nextInt(6) == 0 ? named(all, "parish") : all.get(random.nextInt(all.size()));
            Object[] given = new Object[m.getParameterCount()];
            for (int g = 0; g < given.length; g++) {
                given[g] = random.nextInt(3) == 0 ? random.nextInt(12) - 1
                        : random.nextInt(20) == 0 ? random.nextInt() : ODD[random.nextInt(ODD.length)];
            }
            try {
                sum = sum * 31 + ((Number) m.invoke(x, given)).longValue();
            } catch (InvocationTargetException e) {
                Check.due(m.getName() + " threw " + e.getCause(), 1, 0);
            }
        }
        return sum;
    }

    private static Method named(List<Method> all, String name) {
        for (Method m : all) {
            if (m.getName().equals(name)) {
                return m;
            }
        }
        return all.get(0);
    }
}
