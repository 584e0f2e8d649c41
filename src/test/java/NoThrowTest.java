import java.lang.reflect.InvocationTargetException;
import java.lang.reflect.Method;
import java.lang.reflect.Modifier;
import java.util.Arrays;
import java.util.Comparator;
import java.util.Random;

/** No call throws, for whatever numbers in whatever state. */
public final class NoThrowTest {
    private static final int[] EDGES = {Integer.MIN_VALUE, -65536, -17, -2, -1, 0, 1, 2, 3, 4, 5, 12,
        15, 16, 17, 20, 31, 32, 33, 60, 61, 100, 400, 1000, 4095, 8191, 65535, 65536, 0x00010001,
        Integer.MAX_VALUE};

    private static Object[] someArguments(Method m, Random random) {
        Object[] all = new Object[m.getParameterCount()];
        for (int i = 0; i < all.length; i++) {
            boolean flag = m.getParameterTypes()[i] == boolean.class;
            int number = random.nextInt(3) == 0 ? EDGES[random.nextInt(EDGES.length)] : random.nextInt(17);
            all[i] = flag ? (Object) random.nextBoolean() : (Object) number;
        }
        return all;
    }

    private static Method[] publicMethods() {
        return Arrays.stream(WayMarks.class.getDeclaredMethods())
            .filter(m -> Modifier.isPublic(m.getModifiers()))
            .sorted(Comparator.comparing(Method::getName))
            .toArray(Method[]::new);
    }

    public static void main(String[] args) throws IllegalAccessException {
        Method[] methods = publicMethods();
        int thrown = 0;
        for (int seed = 1; seed <= 300; seed++) {
            Random random = new Random(seed);
            WayMarks x = Nets.empty(1 + random.nextInt(16));
            for (int i = 0; i < 490; i++) {
                Method m = methods[random.nextInt(methods.length)];
                Object[] given = someArguments(m, random);
                try {
                    m.invoke(x, given);
                } catch (InvocationTargetException e) {
                    thrown++;
                    System.out.println(m.getName() + Arrays.toString(given) + " threw " + e.getCause());
                }
            }
        }
        System.out.println(thrown == 0 ? "no call threw" : thrown + " calls threw");
        if (thrown != 0) {
            System.exit(1);
        }
    }
}
