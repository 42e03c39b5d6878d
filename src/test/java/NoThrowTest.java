import java.lang.reflect.InvocationTargetException;
import java.lang.reflect.Method;
import java.lang.reflect.Modifier;
import java.util.Arrays;
import java.util.Comparator;
import java.util.Random;

/**
 * LANGUAGE.md's rule 7: no call throws, by any arguments in any state, behind the 512th call, too (what is
 * answered there is free, and is not looked at).
 */
public final class NoThrowTest {
    private static final int OBJECTS = 120, CALLS = 4000;
    private static final int[] FAR = {Integer.MIN_VALUE, Integer.MIN_VALUE + 1, -100, -1, 8, 9, 10, 11, 14, 20, 24, 30, 60,
        61, 64, 100, 127, 128, 255, 256, 9999, Integer.MAX_VALUE - 5, Integer.MAX_VALUE};

    public static void main(String[] args) throws Exception {
        Method[] methods = Arrays.stream(MilestoneMaids.class.getDeclaredMethods())
            .filter(m -> Modifier.isPublic(m.getModifiers())).sorted(Comparator.comparing(Method::getName))
            .toArray(Method[]::new);
        for (int i = 0; i < OBJECTS && Due.wrong() == 0; i++) run(methods, i);
        Due.end("NoThrowTest");
    }

    private static void run(Method[] methods, int seed) throws IllegalAccessException {
        Random random = new Random(seed);
        MilestoneMaids x = new MilestoneMaids();
        for (int call = 0; call < CALLS; call++) {
            // Some objects are fed ways, or they would hardly ever have one.
            if (seed % 2 == 0 && call % 200 == 0) Due.is("six at most", feed(x, new WayTexts(random).text()) < 6 ? 1 : 0, 1);
            Method m = methods[random.nextInt(methods.length)];
            Object[] arguments = new Object[m.getParameterCount()];
            for (int i = 0; i < arguments.length; i++) arguments[i] = argument(m.getParameterTypes()[i], random);
            try {
                m.invoke(x, arguments);
                Due.is("answered", 0, 0);
            } catch (InvocationTargetException e) {
                Due.is("object " + seed + ", call " + call + ": " + m.getName() + Arrays.toString(arguments) + " threw "
                    + e.getCause(), 1, 0);
                return;
            }
        }
    }

    private static int feed(MilestoneMaids x, String text) {
        x.way();
        for (char sign : text.toCharArray()) x.feed(sign);
        return x.way();
    }

    private static Object argument(Class<?> type, Random random) {
        if (type == boolean.class) return random.nextBoolean();
        int n = random.nextInt(5) == 0 ? FAR[random.nextInt(FAR.length)] : random.nextInt(8) - 1;
        if (type == long.class) return random.nextInt(4) == 0 ? random.nextLong() : (long) n;
        return n;
    }
}
