import java.lang.reflect.Method;
import java.util.ArrayList;
import java.util.Arrays;
import java.util.HashMap;
import java.util.List;
import java.util.Map;
import java.util.Random;

/**
 * All promises: many runs of calls, drawn from fixed seeds, on the class and on the literal PlainTowns.
 * Each answer is compared, and all that is told and the digest behind each call.
 */
public final class PlainRunsTest {
    private static final int RUNS = 1200;
    private static final int CALLS = 250;

    /** For each call how often it is drawn, then what its arguments are. */
    private static final String[] CALLS_DRAWN = {
        "row 3 row size", "lay 4 row place int", "at 2 row place", "tear 1 row", "copy 3 row place row place many",
        "mean 2 row", "text 1 text bytes", "put 3 text byte sign", "fault 2 text", "chain 1 text",
        "person 3 person five", "error 3 error five", "mark 6 person kind", "stride 4 person deed",
        "mend 6 error bit", "err 8 told by", "day 4", "undo 2 turn", "keep 2 place3", "on 1 place3",
        "does 8 town day person", "differ 8 town town day", "since 6 town town person", "worst 5 day",
        "source 6 town day person", "together 5 town person person", "warn 10 town day person deed",
        "agree 6 town town day", "next 5 town day person deed", "letter 4 town person deed", "fits 8 row",
        "sure 8 row", "lies 4 row", "odds 8 town day person deed twelfth", "lots 2 lots seed", "count 1 nine",
        "findings 1 finding"
    };

    private final Random random;
    private final TownRepeated ours = new TownRepeated();
    private final PlainTowns plain = new PlainTowns();
    private final Map<String, Method> ourCalls = new HashMap<>();
    private final Map<String, Method> plainCalls = new HashMap<>();
    private final List<String> drawn = new ArrayList<>();
    private final int run;
    private String past = "";

    private PlainRunsTest(int run) {
        this.run = run;
        this.random = new Random(run);
        for (Method m : TownRepeated.class.getDeclaredMethods()) {
            if (java.lang.reflect.Modifier.isPublic(m.getModifiers())) ourCalls.put(m.getName(), m);
        }
        for (Method m : PlainTowns.class.getDeclaredMethods()) {
            if (!java.lang.reflect.Modifier.isPrivate(m.getModifiers())) plainCalls.put(m.getName(), m);
        }
        for (String call : CALLS_DRAWN) {
            String[] parts = call.split(" ");
            for (int n = 0; n < Integer.parseInt(parts[1]); n++) drawn.add(call);
        }
    }

    public static void main(String[] args) throws ReflectiveOperationException {
        for (int run = 0; run < RUNS; run++) {
            new PlainRunsTest(run).go();
        }
        Check.end();
    }

    private void go() throws ReflectiveOperationException {
        if (run % 10 != 0) {
            writeChain();
        }
        for (int n = 0; n < CALLS; n++) {
            int what = random.nextInt(40);
            if (what == 0 && n > 100) {
                writeChain();
            } else if (what < 4) {
                writeFours();
            } else {
                String[] parts = drawn.get(random.nextInt(drawn.size())).split(" ");
                Object[] values = new Object[parts.length - 2];
                for (int i = 0; i < values.length; i++) values[i] = value(parts[i + 2]);
                both(parts[0], values);
            }
        }
    }

    private long both(String name, Object... values) throws ReflectiveOperationException {
        String call = name + Arrays.toString(values);
        past = past.length() > 300 ? past.substring(past.length() - 300) + " " + call : past + " " + call;
        plain.forget();
        long want = ((Number) plainCalls.get(name).invoke(plain, values)).longValue();
        long got = ((Number) ourCalls.get(name).invoke(ours, values)).longValue();
        String where = "run " + run + ": .." + past;
        Check.due(where, got, want);
        plain.forget();
        Check.due(where + ", asked()", ours.asked(), plain.asked());
        Check.due(where + ", upper()", ours.upper(), plain.upper());
        Check.due(where + ", lower()", ours.lower(), plain.lower());
        Check.due(where + ", finding()", ours.finding(), plain.finding());
        Check.due(where + ", digest()", ours.digest(), plain.digest());
        for (int f = 1; f <= 5; f++) Check.due(where + ", findings(" + f + ")", ours.findings(f), plain.findings(f));
        return got;
    }

    private int upTo(int most) {
        return random.nextInt(most + 1);
    }

    /** A chain by the language, now and then with a sign that is off. */
    private void writeChain() throws ReflectiveOperationException {
        StringBuilder signs = new StringBuilder();
        int persons = 1 + upTo(4);
        for (int p = 0; p < persons; p++) {
            signs.append(random.nextInt(3) == 0 ? " " : "");
            signs.append("pdzlsf".charAt(upTo(5))).append(upTo(9)).append(upTo(9));
        }
        int errors = upTo(6);
        int busy = upTo(persons - 1);
        for (int i = 0; i < errors; i++) {
            signs.append(random.nextInt(3) == 0 ? " " : "");
            int town = upTo(4);
            int day = random.nextBoolean() ? Math.min(19, town + upTo(5)) : upTo(19);
            int person = random.nextInt(3) == 0 ? upTo(persons - 1) : busy;
            signs.append('x').append(town).append((char) ('A' + day)).append(person).append(1 + upTo(8));
        }
        if (random.nextInt(4) == 0) {
            signs.setCharAt(upTo(signs.length() - 1), (char) (random.nextBoolean() ? sign() : upTo(255)));
        }
        int t = upTo(3);
        both("text", t, Math.min(60, signs.length() + (random.nextInt(4) == 0 ? upTo(4) : 0)));
        for (int i = 0; i < signs.length(); i++) both("put", t, i, (int) signs.charAt(i));
        both("fault", t);
        both("chain", t);
    }

    /** A row of fours, mostly of what is done, so that something fits. */
    private void writeFours() throws ReflectiveOperationException {
        if (ours.count(0) == 0) {
            return;
        }
        int fours = random.nextInt(4) == 0 ? upTo(10) : upTo(2);
        int r = upTo(5);
        both("row", r, fours * 4);
        for (int f = 0; f < fours; f++) {
            int t = upTo(4);
            int d = random.nextInt(20) == 0 ? upTo(19) : Math.max(t, upTo(19));
            int p = upTo(ours.count(0) - 1);
            int deed = random.nextInt(4) == 0 ? upTo(9) : Math.max(0, ours.does(t, d, p));
            both("lay", r, 4 * f, t);
            both("lay", r, 4 * f + 1, d);
            both("lay", r, 4 * f + 2, p);
            both("lay", r, 4 * f + 3, deed);
        }
        both("fits", r);
        both("sure", r);
        both("lies", r);
    }

    private int sign() {
        return "pdzlsfx 0123456789ABTU".charAt(upTo(21));
    }

    private int value(String of) {
        if (random.nextInt(25) == 0) {
            int[] odd = {-1, -2, 5, 6, 10, 12, 13, 20, 41, 61, Integer.MAX_VALUE, Integer.MIN_VALUE, -9};
            return odd[upTo(odd.length - 1)];
        }
        switch (of) {
            case "row": return upTo(5);
            case "size": return random.nextInt(3) == 0 ? upTo(40) : 4 * upTo(4);
            case "place": return upTo(11);
            case "many": return upTo(8);
            case "int": return random.nextInt(4) == 0 ? random.nextInt() : upTo(19);
            case "text": return upTo(3);
            case "bytes": return upTo(60);
            case "byte": return upTo(40);
            case "sign": return random.nextInt(4) == 0 ? random.nextInt() : sign();
            case "person": return upTo(Math.max(0, ours.count(0) - 1));
            case "error": return upTo(Math.max(0, ours.count(1) - 1));
            case "five": return upTo(4);
            case "kind": return upTo(5);
            case "deed": return upTo(9);
            case "bit": return upTo(1);
            case "told": return 1000 * upTo(4) + 10 * upTo(19) + upTo(Math.max(0, ours.count(0) - 1));
            case "by": return 1 + upTo(8);
            case "turn": return upTo(ours.count(4));
            case "place3": return upTo(2);
            case "town": return upTo(4);
            case "day": return upTo(19);
            case "twelfth": return upTo(12);
            case "lots": return 1 + upTo(3);
            case "seed": return 1 + random.nextInt(2147483646);
            case "nine": return upTo(8);
            case "finding": return 1 + upTo(4);
            default: throw new IllegalArgumentException(of);
        }
    }
}
