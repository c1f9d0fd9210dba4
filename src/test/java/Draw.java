import java.util.ArrayList;
import java.util.List;
import java.util.Random;

/** Calls on a Twin, drawn from a seed: chains, rows of fours, and any call with arguments that mostly are as told. */
final class Draw {
    /** For each call how often it is drawn, then what its arguments are. */
    private static final String[] ALL = {
        "row 3 row size", "lay 4 row place int", "at 2 row place", "tear 1 row", "copy 3 row place row place many",
        "mean 2 row", "text 1 text bytes", "put 3 text byte sign", "fault 2 text", "chain 1 text",
        "person 3 person five", "error 3 error five", "mark 6 person kind", "stride 4 person deed",
        "mend 6 error bit", "err 8 told by", "day 4", "undo 2 turn", "keep 2 place3", "on 1 place3",
        "does 8 town day person", "differ 8 town town day", "since 6 town town person", "worst 5 day",
        "source 6 town day person", "together 5 town person person", "warn 10 town day person deed",
        "agree 6 town town day", "next 5 town day person deed", "letter 4 town person deed", "fits 8 row",
        "sure 8 row", "lies 4 row", "odds 8 town day person deed twelfth", "lots 2 lots seed", "count 1 nine",
        "findings 1 finding"
    };
    /** Of these, those that change no chain, row or text. */
    private static final List<String> ASKING = List.of("at", "mean", "fault", "person", "error", "mark", "does", "differ", "since",
        "worst", "source", "together", "warn", "agree", "next", "letter", "fits", "sure", "lies", "odds", "count", "findings");
    private static final int[] ODD = {-1, -2, 5, 6, 10, 12, 13, 20, 41, 61, Integer.MAX_VALUE, Integer.MIN_VALUE, -9};

    final Random random;
    private final Twin twin;
    private final List<String> any = new ArrayList<>();
    private final List<String> asking = new ArrayList<>();

    Draw(int seed, Twin twin) {
        this.random = new Random(seed);
        this.twin = twin;
        for (String call : ALL) {
            String[] parts = call.split(" ");
            for (int n = 0; n < Integer.parseInt(parts[1]); n++) {
                any.add(call);
                if (ASKING.contains(parts[0])) {
                    asking.add(call);
                }
            }
        }
    }

    int upTo(int most) {
        return random.nextInt(most + 1);
    }

    long callAny() {
        return call(any.get(random.nextInt(any.size())));
    }

    /** A call that only asks, and one look at what it told. */
    void ask() {
        call(asking.get(random.nextInt(asking.size())));
        lookAtTold();
    }

    private long call(String drawn) {
        String[] parts = drawn.split(" ");
        int[] values = new int[parts.length - 2];
        for (int i = 0; i < values.length; i++) {
            values[i] = value(parts[i + 2]);
        }
        return twin.call(parts[0], values);
    }

    void lookAtTold() {
        int look = upTo(6);
        if (look < 2) {
            twin.call("asked");
        } else if (look == 6) {
            twin.call("findings", 1 + upTo(4));
        } else {
            twin.call(new String[] {"upper", "lower", "finding", "asked"}[look - 2]);
        }
    }

    /** Persons, then errors, by the language: blanks now and then, and many errors of one person. */
    String chain(int persons, int errors) {
        StringBuilder signs = new StringBuilder();
        for (int p = 0; p < persons; p++) {
            signs.append(random.nextInt(3) == 0 ? " " : "");
            signs.append("pdzlsf".charAt(upTo(5))).append(upTo(9)).append(upTo(9));
        }
        int busy = upTo(persons - 1);
        for (int i = 0; i < errors; i++) {
            signs.append(random.nextInt(3) == 0 ? " " : "");
            int town = upTo(4);
            int day = random.nextBoolean() ? Math.min(19, town + upTo(5)) : upTo(19);
            int person = random.nextInt(3) == 0 ? upTo(persons - 1) : busy;
            signs.append('x').append(town).append((char) ('A' + day)).append(person).append(1 + upTo(8));
        }
        return signs.toString();
    }

    /** One sign of these is another one. */
    String spoiled(String signs) {
        StringBuilder all = new StringBuilder(signs);
        all.setCharAt(upTo(signs.length() - 1), (char) (random.nextBoolean() ? sign() : upTo(255)));
        return all.toString();
    }

    void write(int t, String signs) {
        twin.call("text", t, Math.min(60, signs.length() + (random.nextInt(4) == 0 ? upTo(4) : 0)));
        for (int i = 0; i < signs.length(); i++) {
            if (signs.charAt(i) != ' ') {
                twin.call("put", t, i, signs.charAt(i));
            }
        }
    }

    /** A row of fours, mostly of what is done, so that something fits. */
    void writeFours(int r, int fours) {
        twin.call("row", r, fours * 4);
        for (int f = 0; f < fours; f++) {
            int t = upTo(4);
            int d = random.nextInt(20) == 0 ? upTo(19) : Math.max(t, upTo(19));
            int p = upTo(twin.known(0) - 1);
            int deed = random.nextInt(4) == 0 ? upTo(9) : Math.max(0, twin.knownDeed(t, d, p));
            twin.call("lay", r, 4 * f, t);
            twin.call("lay", r, 4 * f + 1, d);
            twin.call("lay", r, 4 * f + 2, p);
            twin.call("lay", r, 4 * f + 3, deed);
        }
    }

    void askFours(int r) {
        for (String call : new String[] {"fits", "sure", "lies"}) {
            twin.call(call, r);
            twin.call("asked");
        }
        twin.call("upper");
    }

    private int sign() {
        return "pdzlsfx 0123456789ABTU".charAt(upTo(21));
    }

    int told() {
        return 1000 * upTo(4) + 10 * upTo(19) + upTo(Math.max(0, twin.known(0) - 1));
    }

    int seed() {
        return 1 + random.nextInt(2147483646);
    }

    private int value(String of) {
        if (random.nextInt(25) == 0) {
            return ODD[upTo(ODD.length - 1)];
        }
        switch (of) {
            case "row": return upTo(5);
            case "size": return random.nextInt(3) == 0 ? upTo(40) : 4 * upTo(4);
            case "place": return upTo(11);
            case "many": return upTo(8);
            case "int": return random.nextInt(4) == 0 ? random.nextInt() : upTo(19);
            case "text": return upTo(3);
            case "bytes": return upTo(60);
            case "byte": return upTo(40);
            case "sign": return random.nextInt(4) == 0 ? random.nextInt() : sign();
            case "person": return upTo(Math.max(0, twin.known(0) - 1));
            case "error": return upTo(Math.max(0, twin.known(1) - 1));
            case "five": return upTo(4);
            case "kind": return upTo(5);
            case "deed": return upTo(9);
            case "bit": return upTo(1);
            case "told": return told();
            case "by": return 1 + upTo(8);
            case "turn": return upTo(twin.known(4));
            case "place3": return upTo(2);
            case "town": return upTo(4);
            case "day": return upTo(19);
            case "twelfth": return upTo(12);
            case "lots": return 1 + upTo(3);
            case "seed": return seed();
            case "nine": return upTo(8);
            case "finding": return 1 + upTo(4);
            default: throw new IllegalArgumentException(of);
        }
    }
}
