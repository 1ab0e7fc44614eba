import java.lang.reflect.InvocationTargetException;
import java.lang.reflect.Method;
import java.lang.reflect.Modifier;
import java.util.ArrayList;
import java.util.Comparator;
import java.util.List;
import java.util.NoSuchElementException;
import java.util.Random;

/** Every call with the least, the largest and the odd numbers, in all kinds of states: only lacking() may throw. */
public final class ExtremesTest {
    private static final long[] ODD = {Integer.MIN_VALUE, Integer.MAX_VALUE, Integer.MIN_VALUE + 1, -2, -1, 0, 1, 2, 3,
        4, 5, 7, 8, 19, 20, 21, 39, 40, 41, 63, 64, 65, 255, 256, 899, 900, 901, 'a', 'z'};
    private static final long[] LONGS = {Long.MIN_VALUE, Long.MAX_VALUE, Long.MIN_VALUE + 1, 9999, -9999, 10000, -10000,
        0x7a7a7a7a7a7aL, 0x7a7a7a7a7a7a7aL, 0x6e6f6e65L};

    private static int wrong = 0;

    public static void main(String[] args) throws IllegalAccessException {
        List<Method> calls = new ArrayList<>();
        for (Method m : DriftPages.class.getDeclaredMethods()) {
            if (Modifier.isPublic(m.getModifiers())) {
                calls.add(m);
            }
        }
        calls.sort(Comparator.comparing(Method::getName));
        for (int seed = 1; seed <= 2000 && wrong == 0; seed++) {
            run(seed, calls);
        }
        System.out.println(wrong == 0 ? "nothing is thrown" : "something is thrown");
        if (wrong != 0) {
            System.exit(1);
        }
    }

    private static void run(int seed, List<Method> calls) throws IllegalAccessException {
        Random random = new Random(seed);
        DriftPages x = new DriftPages();
        if (seed % 8 != 0) {
            Due.table(x, "table a number,b word,c word,d number;order b down first,a up" + ";row 1 a none -2".repeat(20));
        }
        for (int i = 0; i < 512; i++) {
            Method m = calls.get(random.nextInt(calls.size()));
            if (m.getName().equals("table") && random.nextInt(20) > 0) {
                continue;
            }
            call(seed, x, m, random);
        }
    }

    private static void call(int seed, DriftPages x, Method m, Random random) throws IllegalAccessException {
        Object[] given = new Object[m.getParameterCount()];
        for (int i = 0; i < given.length; i++) {
            Class<?> type = m.getParameterTypes()[i];
            long odd = ODD[random.nextInt(random.nextInt(3) == 0 ? ODD.length : 12)];
            if (type == boolean.class) {
                given[i] = random.nextBoolean();
            } else if (type == int.class) {
                given[i] = (int) odd;
            } else {
                given[i] = random.nextInt(3) == 0 ? LONGS[random.nextInt(LONGS.length)] : random.nextInt(3) == 0 ? 'a' : odd;
            }
        }
        try {
            m.invoke(x, given);
        } catch (InvocationTargetException e) {
            if (!m.getName().equals("lacking") || !(e.getCause() instanceof NoSuchElementException)) {
                wrong++;
                System.out.println("seed " + seed + ": " + m.getName() + List.of(given) + " throws " + e.getCause());
            }
        }
    }
}
