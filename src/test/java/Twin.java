import java.lang.reflect.Method;
import java.lang.reflect.Modifier;
import java.util.Arrays;
import java.util.HashMap;
import java.util.Map;

/**
 * An object of the class and one of PlainTowns that are called alike: every answer of the one is looked at.
 * Each call is counted, what is told as well, as the document lets an object be used for 512 calls alone.
 */
final class Twin {
    static final int MOST_CALLS = 512;
    private static final int PAST_SHOWN = 300;
    private static final Map<String, Method> OURS = callsOf(TownRepeated.class);
    private static final Map<String, Method> PLAIN = callsOf(PlainTowns.class);

    private final String run;
    private final TownRepeated ours = new TownRepeated();
    private final PlainTowns plain = new PlainTowns();
    private int calls = 0;
    private String past = "";

    Twin(String run) {
        this.run = run;
    }

    private static Map<String, Method> callsOf(Class<?> of) {
        Map<String, Method> all = new HashMap<>();
        for (Method m : of.getDeclaredMethods()) {
            if (!Modifier.isPrivate(m.getModifiers()) && !Modifier.isStatic(m.getModifiers())) {
                // PlainTowns has private ones of the same names, and the class has none.
                all.put(m.getName(), m);
            }
        }
        return all;
    }

    int left() {
        return MOST_CALLS - calls;
    }

    /** One call on both; the answer is as PlainTowns has it. */
    long call(String name, int... values) {
        calls++;
        String call = name + Arrays.toString(values);
        past = (past.length() > PAST_SHOWN ? past.substring(past.length() - PAST_SHOWN) : past) + " " + call;
        Check.due(run + ", call " + calls + " is one too many", calls <= MOST_CALLS ? 0 : 1, 0);
        plain.forget();
        long want = answer(PLAIN.get(name), plain, values);
        Check.due(run + ", call " + calls + ": .." + past, answer(OURS.get(name), ours, values), want);
        return want;
    }

    /** One call on both, with an answer that is known beforehand. */
    void due(long want, String name, int... values) {
        long got = call(name, values);
        Check.due(run + ", call " + calls + ", as known beforehand: .." + past, got, want);
    }

    /** What count() tells: of PlainTowns alone, so that it is no call. */
    int known(int what) {
        plain.forget();
        return plain.count(what);
    }

    /** What does() tells: of PlainTowns alone, so that it is no call. */
    int knownDeed(int t, int d, int p) {
        plain.forget();
        return plain.does(t, d, p);
    }

    /** Whether an ERROR is MENDED: of PlainTowns alone, so that it is no call. */
    boolean knownMended(int i) {
        return plain.isMended(i);
    }

    private static long answer(Method m, Object of, int... values) {
        try {
            return ((Number) m.invoke(of, Arrays.stream(values).boxed().toArray())).longValue();
        } catch (ReflectiveOperationException e) {
            throw new IllegalStateException(m.getName() + Arrays.toString(values), e);
        }
    }
}
