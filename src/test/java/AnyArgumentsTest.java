import java.lang.reflect.InvocationTargetException;
import java.lang.reflect.Method;
import java.lang.reflect.Modifier;
import java.util.ArrayList;
import java.util.Arrays;
import java.util.Comparator;
import java.util.List;
import java.util.Random;

/** Terms: no call throws for any arguments in any state, and what is refused changes nothing but the findings. */
public final class AnyArgumentsTest {
    private static final int[] ODD = {Integer.MIN_VALUE, Integer.MIN_VALUE + 1, -1000, -10, -9, -2, -1, 0, 1, 2, 3, 4, 5,
        6, 9, 10, 11, 12, 13, 19, 20, 31, 32, 33, 40, 41, 60, 61, 199, 200, 4194, 5000, 65536,
        Integer.MAX_VALUE - 1, Integer.MAX_VALUE};
    /** The call itself, and the digest and what is told ahead of it and behind. */
    private static final int CALLS_OF_ONE = 1 + 2 * (1 + 3);
    private static final String[] CHAINS = {"", "p00", "d12s34f50l78z99x0A01x1B11x2C22x3D33x4E44x4T09",
        "f55x0A05x0B05x1B05x2C05x3D05x4E05"};

    public static void main(String[] args) {
        List<Method> all = new ArrayList<>();
        for (Method m : TownRepeated.class.getDeclaredMethods()) {
            if (Modifier.isPublic(m.getModifiers())) {
                all.add(m);
            }
        }
        all.sort(Comparator.comparing(Method::getName));
        for (int run = 0; run < 3200; run++) {
            Random random = new Random(run);
            String chain = CHAINS[run % 4];
            TownRepeated x = chain.isEmpty() ? new TownRepeated() : Check.chainOf(chain);
            int looked = (Edge.MOST_CALLS - chain.length() - 3) / CALLS_OF_ONE;
            for (int n = 0; n < looked; n++) {
                call(x, all.get(random.nextInt(all.size())), random);
            }
        }
        Check.end();
    }

    private static void call(TownRepeated x, Method m, Random random) {
        Object[] values = new Object[m.getParameterCount()];
        for (int i = 0; i < values.length; i++) {
            int of = random.nextInt(8);
            values[i] = of == 0 ? random.nextInt() : of < 5 ? random.nextInt(4) : ODD[random.nextInt(ODD.length)];
        }
        String what = m.getName() + Arrays.toString(values);
        long digest = x.digest();
        long told = told(x);
        long got = 0;
        try {
            got = ((Number) m.invoke(x, values)).longValue();
        } catch (InvocationTargetException | IllegalAccessException e) {
            Check.due(what + " threw " + e.getCause(), 1, 0);
            return;
        }
        boolean tells = List.of("asked", "upper", "lower", "digest").contains(m.getName());
        if (got < 0 && !tells) {
            Check.due(what + " answered " + got + " and changed the digest", x.digest(), digest);
            Check.due(what + " answered " + got + " and told", told(x), told);
        }
    }

    private static long told(TownRepeated x) {
        return 31 * (31 * x.upper() + x.lower()) + x.asked();
    }
}
