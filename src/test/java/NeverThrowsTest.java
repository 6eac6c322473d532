import java.lang.reflect.InvocationTargetException;
import java.lang.reflect.Method;
import java.lang.reflect.Modifier;
import java.util.Arrays;
import java.util.Comparator;
import java.util.Random;

/** Any arguments in any state: no call throws, and what is asked twice is answered alike. */
public final class NeverThrowsTest {
    private static final int[] EDGES = {Integer.MIN_VALUE, Integer.MAX_VALUE, -101, -100, -99, -3, -2, -1, 0, 1, 2, 3, 7,
        8, 9, 10, 11, 12, 16, 20, 21, 40, 41, 62, 63, 64, 65, 99, 100, 101, 102, 120, 121, 240, 241, 260, 261, 600, 601,
        9998, 9999, 10000, 1 << 30, 1 << 16, 1 << 8};
    private static final String[] ASKING = {"tried", "dot", "smooth", "apart", "seen", "marked", "markings", "joins",
        "begins", "latest", "meet", "pinned", "believed", "lost", "burnFirst", "cut", "renewed", "who", "count"};

    public static void main(String[] args) throws IllegalAccessException {
        Method[] face = Arrays.stream(WhiteLine.class.getDeclaredMethods())
                .filter(m -> Modifier.isPublic(m.getModifiers())).toArray(Method[]::new);
        // Reflection tells them in no set order: the same run each time needs one.
        Arrays.sort(face, Comparator.comparing(Method::getName));
        for (int seed = 0; seed < 400; seed++) {
            Random random = new Random(seed);
            WhiteLine x = new WhiteLine();
            if (seed % 2 == 0) {
                x.road(8 + random.nextInt(57));
                Due.law(x, new Texts(random).plainLaw());
            }
            for (int k = 0; k < 500; k++) {
                call(x, face[random.nextInt(face.length)], random);
            }
        }
        Due.end("NeverThrowsTest");
    }

    private static void call(WhiteLine x, Method method, Random random) throws IllegalAccessException {
        Class<?>[] types = method.getParameterTypes();
        Object[] values = new Object[types.length];
        for (int k = 0; k < values.length; k++) {
            int number = random.nextInt(3) == 0 ? random.nextInt(20) : EDGES[random.nextInt(EDGES.length)];
            values[k] = types[k] == boolean.class ? (Object) random.nextBoolean() : (Object) number;
        }
        String told = method.getName() + Arrays.toString(values);
        try {
            Object answer = method.invoke(x, values);
            boolean isAlike = !Arrays.asList(ASKING).contains(method.getName())
                    || answer.equals(method.invoke(x, values));
            Due.is(told + " asked twice", true, isAlike);
        } catch (InvocationTargetException thrown) {
            Due.is(told + " threw " + thrown.getCause(), true, false);
        }
    }
}
