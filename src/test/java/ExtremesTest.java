import java.lang.reflect.InvocationTargetException;
import java.lang.reflect.Method;
import java.lang.reflect.Modifier;
import java.util.Arrays;
import java.util.Comparator;
import java.util.Random;

/** No call throws, whatever its numbers are, nor behind the last call whose answer is promised. */
public final class ExtremesTest {
    private static final int[] VALUES = {Integer.MIN_VALUE, Integer.MIN_VALUE + 1, -1000, -61, -12, -10, -2, -1, 0, 1, 2, 3, 4, 5, 6, 7, 8, 9, 10, 11, 12, 20, 21, 49, 50, 59, 60, 61,
        99, 100, 120, 601, 602, 610, 998, 999, 1000, 32767, Integer.MAX_VALUE - 2, Integer.MAX_VALUE - 1, Integer.MAX_VALUE};
    private static final int RUNS = 3000;
    private static final int CALLS = 512;
    private static final int LONG_CALLS = 100000;

    public static void main(String[] args) throws IllegalAccessException {
        Method[] face = Arrays.stream(TwoStraws.class.getDeclaredMethods())
            .filter(m -> Modifier.isPublic(m.getModifiers()))
            .sorted(Comparator.comparing(Method::getName))
            .toArray(Method[]::new);
        Random random = new Random(7);
        int wrong = 0;
        for (int run = 0; run <= RUNS; run++) {
            TwoStraws x = new TwoStraws();
            for (int i = 0; i < (run == RUNS ? LONG_CALLS : CALLS); i++) {
                Method m = face[random.nextInt(face.length)];
                Object[] given = new Object[m.getParameterCount()];
                for (int k = 0; k < given.length; k++) {
                    int v = random.nextInt(3) == 0 ? VALUES[random.nextInt(VALUES.length)] : random.nextInt(7);
                    given[k] = m.getParameterTypes()[k] == long.class ? (Object) (long) v : (Object) v;
                }
                if (m.getName().equals("feed")) {
                    given[0] = (int) "pwtldk0123456789+-*/%()!|&<=>?;".charAt(random.nextInt(31));
                }
                try {
                    m.invoke(x, given);
                } catch (InvocationTargetException e) {
                    wrong++;
                    System.out.println(m.getName() + Arrays.toString(given) + " threw " + e.getCause());
                }
            }
        }
        System.out.println(RUNS * CALLS + LONG_CALLS + " calls, " + wrong + " threw");
        if (wrong != 0) {
            System.exit(1);
        }
    }
}
