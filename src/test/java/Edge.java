import java.lang.reflect.Method;
import java.lang.reflect.Modifier;
import java.util.ArrayList;
import java.util.Arrays;
import java.util.HashMap;
import java.util.List;
import java.util.Map;
import java.util.Set;
import java.util.TreeMap;

/**
 * A sentence of the document that names an edge, and the calls on a new object that show it on its sides.
 * The sentences are kept, so that EdgesTest can tell whether any of the document has none.
 */
final class Edge {
    static final int WHOLE = -1, TERMS = 0;
    static final int NOTHING = 1, BEYOND = 2, UNLIKE = 3, NOUGHT = 4, SIZE = 5;
    static final int LEAST = Integer.MIN_VALUE, GREATEST = Integer.MAX_VALUE;
    static final int MOST_CALLS = 512;

    /** The sentences by the number of their promise (WHOLE, TERMS: ahead of the promises). */
    static final Map<Integer, List<String>> SENTENCES = new TreeMap<>();

    private static final int LOOKS_OF_ONE = 2, PERSONS = 5, PLACES = 3, LONGEST_LOOK = 1 + 2 + 5 * 20;
    private static final Map<String, Method> FACE = face();
    private static final Set<String> ASKING = Set.of("at", "mean", "fault", "person", "error", "mark", "does", "differ",
        "since", "worst", "source", "together", "warn", "agree", "next", "letter", "fits", "sure", "lies", "odds", "asked",
        "upper", "lower", "count", "finding", "findings", "digest");

    private record Call(String name, int[] values) {
        @Override
        public String toString() {
            String all = Arrays.toString(values);
            return name + "(" + all.substring(1, all.length() - 1) + ")";
        }
    }

    private final String where;
    private final List<Call> past = new ArrayList<>();
    private final TownRepeated x = new TownRepeated();
    private int calls = 0;

    private Edge(String where) {
        this.where = where;
    }

    static Edge of(int promise, String sentence) {
        SENTENCES.computeIfAbsent(promise, k -> new ArrayList<>()).add(sentence);
        return new Edge((promise < 1 ? "terms" : "promise " + promise) + ", '" + sentence + "'");
    }

    /** The same sentence on another new object. */
    Edge anew() {
        return new Edge(where);
    }

    private static Map<String, Method> face() {
        Map<String, Method> all = new HashMap<>();
        for (Method m : TownRepeated.class.getDeclaredMethods()) {
            if (Modifier.isPublic(m.getModifiers())) {
                all.put(m.getName(), m);
            }
        }
        return all;
    }

    private static long answer(TownRepeated x, Call call) {
        Object[] values = Arrays.stream(call.values).boxed().toArray();
        try {
            return ((Number) FACE.get(call.name).invoke(x, values)).longValue();
        } catch (ReflectiveOperationException e) {
            throw new IllegalStateException(call + " threw", e.getCause());
        }
    }

    private static long answer(TownRepeated x, String name, int... values) {
        return answer(x, new Call(name, values));
    }

    /** All that is asked of the one object is counted, as an object is promised for 512 calls alone. */
    private long ask(String name, int... values) {
        calls++;
        Check.due(where + ": so many calls", calls <= MOST_CALLS ? 1 : 0, 1);
        return answer(x, name, values);
    }

    /** A call with the answer that is due; one that only asks changes nothing. */
    Edge due(long want, String name, int... values) {
        Call call = new Call(name, values);
        Check.due(where + ": " + call, ask(name, values), want);
        if (ASKING.contains(name)) {
            Check.due(where + ": " + call + " changed the digest", again(call).digest(), again().digest());
        }
        past.add(call);
        return this;
    }

    /** A call with its answer, and what is told by asked() then. */
    Edge asks(long want, long asked, String name, int... values) {
        due(want, name, values);
        Check.due(where + ": " + new Call(name, values) + ", asked()", ask("asked"), asked);
        return this;
    }

    /** A call that answers 1, and what is told by upper(), lower() then. */
    Edge tells(long upper, long lower, String name, int... values) {
        due(1, name, values);
        Check.due(where + ": " + new Call(name, values) + ", upper()", ask("upper"), upper);
        Check.due(where + ": " + new Call(name, values) + ", lower()", ask("lower"), lower);
        return this;
    }

    Edge bad(String name, int... values) {
        return changesNothing(TownRepeated.BAD, 0, name, values);
    }

    Edge full(String name, int... values) {
        return changesNothing(TownRepeated.FULL, 0, name, values);
    }

    Edge state(String name, int... values) {
        return changesNothing(TownRepeated.STATE, 0, name, values);
    }

    Edge none(String name, int... values) {
        return changesNothing(TownRepeated.NONE, 0, name, values);
    }

    Edge finds(int finding, String name, int... values) {
        return changesNothing(TownRepeated.FINDING, finding, name, values);
    }

    /** Signs in a TEXT. */
    Edge text(int t, String signs) {
        due(signs.length(), "text", t, signs.length());
        for (int i = 0; i < signs.length(); i++) {
            if (signs.charAt(i) != ' ') {
                due(1000 + ' ', "put", t, i, signs.charAt(i));
            }
        }
        return this;
    }

    /** The CHAIN by a TEXT of these signs. */
    Edge chain(String signs) {
        text(0, signs);
        due(TownRepeated.NONE, "fault", 0);
        return due(signs.replaceAll("x....", "").replace(" ", "").length() / 3, "chain", 0);
    }

    /** A TEXT without a FAULT, on an object of its own. */
    Edge reads(String signs) {
        anew().chain(signs);
        return this;
    }

    /** A TEXT with a FAULT, on an object of its own: it makes no CHAIN. */
    Edge faults(int place, String signs) {
        anew().text(3, signs).due(place, "fault", 3).state("chain", 3);
        return this;
    }

    Edge row(int r, int... ints) {
        due(ints.length, "row", r, ints.length);
        for (int i = 0; i < ints.length; i++) {
            due(1, "lay", r, i, ints[i]);
        }
        return this;
    }

    /** A ROW is just these. */
    Edge isRow(int r, int... ints) {
        for (int i = 0; i < ints.length; i++) {
            asks(1, ints[i], "at", r, i);
        }
        return finds(BEYOND, "at", r, ints.length);
    }

    /** An ERROR is just so. */
    Edge isError(int i, int... of) {
        for (int what = 0; what < of.length; what++) {
            asks(1, of[what], "error", i, what);
        }
        return this;
    }

    Edge counts(int... of) {
        for (int what = 0; what < of.length; what++) {
            due(of[what], "count", what);
        }
        return this;
    }

    /** DAYS go by up to one. */
    Edge days(int last) {
        for (int d = (int) ask("count", 3) + 1; d <= last; d++) {
            due(d, "day");
        }
        return this;
    }

    /** So many ERRORS more, each told the same. */
    Edge errors(int many, int told, int by) {
        int there = (int) ask("count", 1);
        for (int i = 0; i < many; i++) {
            due(there + i, "err", told, by);
        }
        return this;
    }

    /** So many TURNS more: ERROR i is MENDED, is one again, and so on. */
    Edge mends(int many, int i) {
        int others = (int) ask("count", 2);
        for (int n = 0; n < many; n++) {
            due(others + 1 - n % 2, "mend", i, 1 - n % 2);
        }
        return this;
    }

    /**
     * A call that is refused, or answers NONE. Two objects go all the way till now, and one of them is called so:
     * whatever either is asked then is the same, but for the FINDING that is told.
     */
    private Edge changesNothing(int want, int finding, String name, int... values) {
        Call call = new Call(name, values);
        String what = where + ": " + call;
        Check.due(what, ask(name, values), want);
        TownRepeated ahead = again();
        TownRepeated behind = again(call);
        Check.due(what + ", finding()", behind.finding(), finding == 0 ? ahead.finding() : finding);
        for (int f = 1; f <= SIZE; f++) {
            Check.due(what + ", findings(" + f + ")", behind.findings(f), ahead.findings(f) + (f == finding ? 1 : 0));
        }
        Check.due(where + ": so many calls", past.size() + LONGEST_LOOK <= MOST_CALLS ? 1 : 0, 1);
        int looks = looks(ahead);
        for (int look = 0; look < looks; look++) {
            boolean same = look(again(), look).equals(look(again(call), look));
            Check.due(what + " changed what there is, by look " + look, same ? 0 : 1, 0);
        }
        past.add(call);
        return this;
    }

    /** An object that went the same way, and on by these calls. */
    private TownRepeated again(Call... on) {
        TownRepeated other = new TownRepeated();
        for (Call call : past) {
            answer(other, call);
        }
        for (Call call : on) {
            answer(other, call);
        }
        return other;
    }

    /** A look is short, as an object is promised for 512 calls alone: so there are many of them. */
    private static int looks(TownRepeated x) {
        return LOOKS_OF_ONE + (x.count(0) == 0 ? 0 : PERSONS) + (x.count(8) == 0 ? 0 : PLACES * (1 + PERSONS));
    }

    private static List<Long> look(TownRepeated x, int look) {
        int of = look - LOOKS_OF_ONE;
        if (look == 0) {
            return List.of(x.digest(), (long) x.asked(), x.upper(), x.lower());
        } else if (look == 1) {
            return turnsBack(x);
        } else if (of < PERSONS) {
            return deeds(x, of);
        }
        int k = (of - PERSONS) % PLACES;
        int p = (of - PERSONS) / PLACES;
        List<Long> all = new ArrayList<>(List.of((long) x.on(k), x.digest()));
        all.addAll(p == PERSONS ? turnsBack(x) : deeds(x, p));
        return all;
    }

    private static List<Long> turnsBack(TownRepeated x) {
        List<Long> all = new ArrayList<>();
        for (int n = x.count(4) - 1; n >= 0; n--) {
            all.add((long) x.undo(n));
            all.add(x.digest());
        }
        return all;
    }

    private static List<Long> deeds(TownRepeated x, int p) {
        List<Long> all = new ArrayList<>();
        for (int t = 0; t < 5; t++) {
            for (int d = 0; d < 20; d++) {
                all.add((long) x.does(t, d, p));
            }
        }
        return all;
    }
}
