/**
 * Five towns in a chain, each repeating a day later what the one ahead of it did.
 * The document ../shared/DOC.md says what each call promises.
 */
public final class TownRepeated {
    public static final int BAD = -1, FULL = -2, FINDING = -3, STATE = -4, SPENT = -6, NONE = -9;

    private static final int NOTHING = 1, BEYOND = 2, UNLIKE = 3, NOUGHT = 4, SIZE = 5;
    private static final int GRANTED = 0;

    private static final int TOWNS = 5, DAYS = 20, DEEDS = 10, KINDS = 6;
    private static final int LAST_TOWN = TOWNS - 1, LAST_DAY = DAYS - 1;
    private static final int MOST_PERSONS = 5, MOST_ERRORS = 12, MOST_ERRORS_READ = 6, MOST_TURNS = 40;
    private static final int ROWS = 6, MOST_INTS = 40, TEXTS = 4, MOST_BYTES = 60, PLACES = 3;
    private static final int FOUR = 4, TRAITS = 5, COUNTS = 9, MISSING = -1;

    private static final int DRIFTER = 1, LAZY = 2, LEFT = 3, SPY = 4, FOOL = 5;
    private static final int[] LETTERS = {112, 100, 122, 108, 115, 102};
    private static final int[] IS_ALSO = {-1, 0, 0, 0, 1, 2};
    private static final int BLANK = 32, ZERO = 48, LETTER_A = 65, LETTER_X = 120;

    private static final int WARNED_BY = 5, LETTER_DAY = 10, TWELFTHS = 12;
    private static final int MOST_LOTS = 10, MOST_SEED = 2147483646;
    private static final long LOT_TIMES = 48271L, LOT_MODULUS = 2147483647L;

    private final Shelf rows = new Shelf(ROWS, MOST_INTS);
    private final Shelf texts = new Shelf(TEXTS, MOST_BYTES);
    private final Told told = new Told();
    private final Reader reader = new Reader();
    private final Fitting fitting = new Fitting();
    private final Chain now = new Chain();
    private final Chain[] kept = new Chain[PLACES];
    private final int[] sentAt = new int[TOWNS * DEEDS];

    public TownRepeated() {
        for (int k = 0; k < PLACES; k++) {
            kept[k] = new Chain();
        }
    }

    // ---- 1 rows, texts, chains

    public int row(int r, int n) {
        if (!rows.isNumber(r) || n > MOST_INTS) {
            return BAD;
        }
        if (n < 0) {
            return told.found(SIZE);
        }
        rows.make(r, n, 0);
        return n;
    }

    public int lay(int r, int i, int v) {
        int refused = placeRefused(rows, r, i);
        if (refused != GRANTED) {
            return refused;
        }
        told.asked = rows.get(r, i);
        rows.set(r, i, v);
        return 1;
    }

    public int at(int r, int i) {
        int refused = placeRefused(rows, r, i);
        if (refused != GRANTED) {
            return refused;
        }
        told.asked = rows.get(r, i);
        return 1;
    }

    public int tear(int r) {
        int refused = missingRefused(rows, r);
        if (refused != GRANTED) {
            return refused;
        }
        rows.remove(r);
        return 1;
    }

    public int copy(int r, int i, int to, int j, int n) {
        if (!rows.isNumber(r) || !rows.isNumber(to)) {
            return BAD;
        }
        if (n < 0) {
            return told.found(SIZE);
        }
        if (!rows.isThere(r) || !rows.isThere(to)) {
            return told.found(NOTHING);
        }
        if (!rows.holdsRun(r, i, n) || !rows.holdsRun(to, j, n)) {
            return told.found(BEYOND);
        }
        rows.copyRun(r, i, to, j, n);
        return 1;
    }

    public int mean(int r) {
        int refused = missingRefused(rows, r);
        if (refused != GRANTED) {
            return refused;
        }
        int size = rows.sizeOf(r);
        if (size < 1) {
            return told.found(NOUGHT);
        }
        long sum = 0;
        for (int i = 0; i < size; i++) {
            sum += rows.get(r, i);
        }
        told.asked = (int) (sum / size);
        return 1;
    }

    public int text(int t, int n) {
        if (!texts.isNumber(t) || n > MOST_BYTES) {
            return BAD;
        }
        if (n < 0) {
            return told.found(SIZE);
        }
        texts.make(t, n, BLANK);
        return n;
    }

    public int put(int t, int i, int v) {
        int refused = placeRefused(texts, t, i);
        if (refused != GRANTED) {
            return refused;
        }
        int was = texts.get(t, i);
        texts.set(t, i, (byte) v);
        return was + 1000;
    }

    public int fault(int t) {
        int refused = missingRefused(texts, t);
        if (refused != GRANTED) {
            return refused;
        }
        return reader.read(texts, t);
    }

    public int chain(int t) {
        int refused = missingRefused(texts, t);
        if (refused != GRANTED) {
            return refused;
        }
        if (reader.read(texts, t) != NONE) {
            return STATE;
        }
        now.takeFrom(reader.draft);
        for (int k = 0; k < PLACES; k++) {
            kept[k].clear();
        }
        return now.persons;
    }

    public int person(int p, int what) {
        if (!now.isPerson(p) || what < 0 || what >= TRAITS) {
            return BAD;
        }
        told.asked = now.personTrait(p, what);
        return 1;
    }

    public int error(int i, int what) {
        if (!now.isError(i) || what < 0 || what >= TRAITS) {
            return BAD;
        }
        told.asked = now.errorTrait(i, what);
        return 1;
    }

    public int mark(int p, int kind) {
        if (!now.isPerson(p) || kind < 1 || kind >= KINDS) {
            return BAD;
        }
        if (!now.isOfKind(p, kind)) {
            return told.found(UNLIKE);
        }
        switch (kind) {
            case DRIFTER:
                return now.drifted(p);
            case LAZY:
                return now.idleDays(p);
            case LEFT:
                return now.likeTowns(p);
            case SPY:
                return now.othersAlike(p);
            default:
                return now.noughtDays(p);
        }
    }

    public int stride(int p, int v) {
        if (!now.isPerson(p) || v < 0 || v >= DEEDS) {
            return BAD;
        }
        if (now.turns > 0) {
            return STATE;
        }
        int was = now.stride[p];
        now.stride[p] = v;
        return was;
    }

    // ---- 2 turns

    public int mend(int i, int is) {
        if (!now.isError(i) || is < 0 || is > 1) {
            return BAD;
        }
        if (now.isMended(i) == (is == 1)) {
            return STATE;
        }
        if (!now.hasTurnsLeft(1)) {
            return FULL;
        }
        now.turnMended(i);
        return Integer.bitCount(now.mended);
    }

    public int err(int where, int by) {
        if (where < 0 || by < 1 || by >= DEEDS) {
            return BAD;
        }
        int town = where / 1000;
        int day = where % 1000 / 10;
        int person = where % 10;
        if (!isTown(town) || !isDay(day) || !now.isPerson(person)) {
            return BAD;
        }
        if (!now.hasErrorsLeft(1) || !now.hasTurnsLeft(1)) {
            return FULL;
        }
        now.turnErred(town, day, person, by);
        return now.errors - 1;
    }

    public int day() {
        if (now.persons == 0 || now.today >= LAST_DAY) {
            return STATE;
        }
        if (!now.hasTurnsLeft(1)) {
            return FULL;
        }
        now.turnDay();
        return now.today;
    }

    public int undo(int n) {
        if (n < 0 || n > now.turns) {
            return BAD;
        }
        int many = now.turns - n;
        for (int i = 0; i < many; i++) {
            now.turnBack();
        }
        return many;
    }

    public int keep(int k) {
        if (!isPlace(k)) {
            return BAD;
        }
        if (now.persons == 0) {
            return STATE;
        }
        kept[k].takeFrom(now);
        return now.turns;
    }

    public int on(int k) {
        if (!isPlace(k)) {
            return BAD;
        }
        if (!isKept(k)) {
            return told.found(NOTHING);
        }
        now.takeFrom(kept[k]);
        return now.turns;
    }

    // ---- 3 what is done, what differs

    public int does(int t, int d, int p) {
        if (!isTown(t) || !isDay(d) || !now.isPerson(p)) {
            return BAD;
        }
        return now.done(t, d, p);
    }

    public int differ(int t, int u, int d) {
        if (!arePair(t, u) || !isDay(d) || d < u) {
            return BAD;
        }
        return now.differing(t, u, d);
    }

    public int since(int t, int u, int p) {
        if (!arePair(t, u) || !now.isPerson(p)) {
            return BAD;
        }
        int soonest = NONE;
        int many = 0;
        for (int d = u; d < DAYS; d++) {
            if (now.differs(t, u, d, p, now.unmended())) {
                soonest = many == 0 ? d : soonest;
                many++;
            }
        }
        if (many > 0) {
            told.asked = many;
        }
        return soonest;
    }

    public int worst(int d) {
        if (!isDay(d) || d < LAST_TOWN) {
            return BAD;
        }
        if (now.persons == 0) {
            return STATE;
        }
        int town = 0;
        int most = -1;
        for (int t = 1; t < TOWNS; t++) {
            int many = Integer.bitCount(now.differing(t - 1, t, d));
            if (many > most) {
                town = t;
                most = many;
            }
        }
        told.asked = most;
        return town;
    }

    public int source(int t, int d, int p) {
        if (!isTown(t) || !isDay(d) || d < t || !now.isPerson(p)) {
            return BAD;
        }
        int real = now.unmended();
        int deed = now.done(t, d, p);
        int found = 0;
        for (int i = 0; i < now.errors; i++) {
            int bit = 1 << i;
            if ((real & bit) != 0 && now.doneIf(t, d, p, real & ~bit) != deed) {
                found |= bit;
            }
        }
        return found;
    }

    public int together(int t, int p, int q) {
        if (!isTown(t) || !now.isPerson(p) || !now.isPerson(q) || p == q) {
            return BAD;
        }
        int soonest = NONE;
        int many = 0;
        for (int d = t; d < DAYS; d++) {
            if (now.done(t, d, p) == now.done(t, d, q)) {
                soonest = many == 0 ? d : soonest;
                many++;
            }
        }
        told.asked = soonest;
        return many;
    }

    // ---- 4 warnings, mending (aside)

    public int warn(int t, int d, int p, int deed) {
        if (!isTown(t) || t < 1 || !isDay(d) || !now.isPerson(p) || !isDeed(deed)) {
            return BAD;
        }
        if (now.done(t, d, p) != deed) {
            return NONE;
        }
        // A warning only counts on the way to that town and day: one town for each day.
        for (int w = 1; w <= t; w++) {
            int day = d - t + w;
            if (day >= now.today && now.doneIfWarned(t, d, p, w) != deed) {
                told.asked = w;
                return day;
            }
        }
        return NONE;
    }

    public int agree(int t, int u, int d) {
        if (!arePair(t, u) || !isDay(d) || d < u) {
            return BAD;
        }
        // An error is of one person, so the fewest of all are the fewest of each.
        int all = 0;
        for (int p = 0; p < now.persons; p++) {
            int few = now.fewestMended(t, u, d, p);
            if (few == NONE) {
                return NONE;
            }
            all |= few;
        }
        told.asked = all;
        return Integer.bitCount(all);
    }

    public int next(int t, int d, int p, int deed) {
        if (!isTown(t) || !isDay(d) || !now.isPerson(p) || !isDeed(deed)) {
            return BAD;
        }
        for (int e = d; e < DAYS; e++) {
            if (now.done(t, e, p) == deed) {
                return e;
            }
        }
        return NONE;
    }

    public int letter(int t, int p, int deed) {
        if (!isTown(t) || !now.isPerson(p) || !isDeed(deed)) {
            return BAD;
        }
        for (int i = 0; i < sentAt.length; i++) {
            sentAt[i] = NONE;
        }
        int town = t;
        int written = deed;
        for (int n = 0; n <= TOWNS * DEEDS && isDeed(written); n++) {
            int place = town * DEEDS + written;
            if (sentAt[place] != NONE) {
                told.asked = n - sentAt[place];
                return n;
            }
            sentAt[place] = n;
            written = now.done(town, LETTER_DAY + written, p);
            town = (town + 1) % TOWNS;
        }
        return NONE;
    }

    // ---- 5 which errors there were

    public int fits(int r) {
        int refused = foursRefused(r);
        if (refused != GRANTED) {
            return refused;
        }
        fitting.find(now, rows, r);
        told.asked = fitting.first;
        told.tell(fitting.many, 1);
        return 1;
    }

    public int sure(int r) {
        int refused = foursRefused(r);
        if (refused != GRANTED) {
            return refused;
        }
        fitting.find(now, rows, r);
        if (fitting.many == 0) {
            return told.found(NOUGHT);
        }
        told.asked = now.unmended() & ~fitting.inSome;
        return fitting.inEach;
    }

    public int lies(int r) {
        int refused = foursRefused(r);
        if (refused != GRANTED) {
            return refused;
        }
        int soonest = NONE;
        int many = 0;
        int fours = rows.sizeOf(r) / FOUR;
        for (int f = 0; f < fours; f++) {
            if (!fitting.isAsTold(now, rows, r, f, now.unmended())) {
                soonest = many == 0 ? f : soonest;
                many++;
            }
        }
        told.asked = soonest;
        return many;
    }

    // ---- 6 chances, lots

    public int odds(int t, int d, int p, int deed, int h) {
        if (!isTown(t) || !isDay(d) || !now.isPerson(p) || !isDeed(deed)) {
            return BAD;
        }
        if (h < 0 || h > TWELFTHS) {
            return BAD;
        }
        // Errors off the way change nothing, so their chances add up to 1.
        int all = now.onTheWay(t, d, p) & now.unmended();
        int size = Integer.bitCount(all);
        long upper = 0;
        int set = 0;
        for (int n = 0; n < (1 << size); n++) {
            if (now.doneIf(t, d, p, set) == deed) {
                int happen = Integer.bitCount(set);
                upper += power(h, happen) * power(TWELFTHS - h, size - happen);
            }
            set = nextSet(set, all);
        }
        told.tell(upper, power(TWELFTHS, size));
        return 1;
    }

    public int lots(int n, int seed) {
        if (n < 1 || n > MOST_LOTS || seed < 1 || seed > MOST_SEED) {
            return BAD;
        }
        if (now.persons < 1) {
            return STATE;
        }
        if (!now.hasErrorsLeft(n) || !now.hasTurnsLeft(n)) {
            return FULL;
        }
        long lot = seed;
        for (int i = 0; i < n; i++) {
            lot = lot * LOT_TIMES % LOT_MODULUS;
            int town = (int) (lot % TOWNS);
            int day = (int) (lot / 8 % DAYS);
            int person = (int) (lot / 256 % now.persons);
            int by = (int) (lot / 4096 % 9) + 1;
            now.turnErred(town, day, person, by);
        }
        return Integer.bitCount(now.differing(0, LAST_TOWN, LAST_DAY));
    }

    // ---- 7 what is told

    public int asked() {
        return told.asked;
    }

    public long upper() {
        return told.upper;
    }

    public long lower() {
        return told.lower;
    }

    public int count(int what) {
        if (what < 0 || what >= COUNTS) {
            return BAD;
        }
        return howMany(what);
    }

    public int finding() {
        return told.latest;
    }

    public int findings(int f) {
        if (f < NOTHING || f > SIZE) {
            return BAD;
        }
        return told.often[f];
    }

    public long digest() {
        long h = 17;
        for (int what = 0; what < COUNTS; what++) {
            h = 31 * h + howMany(what);
        }
        h = now.digestOn(h);
        for (int k = 0; k < PLACES; k++) {
            h = 31 * h + (isKept(k) ? kept[k].turns : MISSING);
        }
        h = rows.digestOn(h);
        return texts.digestOn(h);
    }

    private int howMany(int what) {
        switch (what) {
            case 0:
                return now.persons;
            case 1:
                return now.errors;
            case 2:
                return Integer.bitCount(now.mended);
            case 3:
                return now.today;
            case 4:
                return now.turns;
            case 5:
                return now.drifters();
            case 6:
                return rows.howManyThere();
            case 7:
                return texts.howManyThere();
            default:
                return keptChains();
        }
    }

    private int keptChains() {
        int many = 0;
        for (int k = 0; k < PLACES; k++) {
            if (isKept(k)) {
                many++;
            }
        }
        return many;
    }

    private int missingRefused(Shelf shelf, int r) {
        if (!shelf.isNumber(r)) {
            return BAD;
        }
        return shelf.isThere(r) ? GRANTED : told.found(NOTHING);
    }

    private int placeRefused(Shelf shelf, int r, int i) {
        int refused = missingRefused(shelf, r);
        if (refused != GRANTED) {
            return refused;
        }
        return shelf.holds(r, i) ? GRANTED : told.found(BEYOND);
    }

    private int foursRefused(int r) {
        if (!rows.isNumber(r)) {
            return BAD;
        }
        if (now.persons == 0) {
            return STATE;
        }
        if (!rows.isThere(r)) {
            return told.found(NOTHING);
        }
        if (rows.sizeOf(r) % FOUR != 0) {
            return told.found(SIZE);
        }
        return areFours(r) ? GRANTED : told.found(UNLIKE);
    }

    private boolean areFours(int r) {
        int fours = rows.sizeOf(r) / FOUR;
        for (int f = 0; f < fours; f++) {
            int i = f * FOUR;
            if (!isTown(rows.get(r, i)) || !isDay(rows.get(r, i + 1))) {
                return false;
            }
            if (!now.isPerson(rows.get(r, i + 2)) || !isDeed(rows.get(r, i + 3))) {
                return false;
            }
        }
        return true;
    }

    private boolean isKept(int k) {
        // Only a chain with persons can be kept.
        return isPlace(k) && kept[k].persons > 0;
    }

    private static boolean isPlace(int k) {
        return k >= 0 && k < PLACES;
    }

    private static boolean isTown(int t) {
        return t >= 0 && t < TOWNS;
    }

    private static boolean isDay(int d) {
        return d >= 0 && d < DAYS;
    }

    private static boolean isDeed(int deed) {
        return deed >= 0 && deed < DEEDS;
    }

    private static boolean arePair(int t, int u) {
        return isTown(t) && isTown(u) && t < u;
    }

    /** The next greater set within all, and none again behind the last: so sets come from the least on. */
    private static int nextSet(int set, int all) {
        return (set - all) & all;
    }

    private static long power(int base, int times) {
        long product = 1;
        for (int i = 0; i < times; i++) {
            product *= base;
        }
        return product;
    }

    /** Rows of numbers, each of which may be missing: made once, so that no call makes any. */
    private static final class Shelf {
        private final int[][] places;
        private final int[] sizes;
        private final int most;

        Shelf(int many, int most) {
            this.most = Math.max(most, 0);
            places = new int[Math.max(many, 0)][Math.max(most, 0)];
            sizes = new int[Math.max(many, 0)];
            for (int r = 0; r < sizes.length; r++) {
                sizes[r] = MISSING;
            }
        }

        boolean isNumber(int r) {
            return r >= 0 && r < sizes.length;
        }

        boolean isThere(int r) {
            return isNumber(r) && sizes[r] != MISSING;
        }

        int sizeOf(int r) {
            return isNumber(r) ? sizes[r] : MISSING;
        }

        boolean holds(int r, int i) {
            return isNumber(r) && i >= 0 && i < sizes[r];
        }

        boolean holdsRun(int r, int i, int n) {
            // By what is left, as i and n together could be too great for an int.
            return isThere(r) && i >= 0 && n >= 0 && i <= sizes[r] && n <= sizes[r] - i;
        }

        int get(int r, int i) {
            return holds(r, i) ? places[r][i] : 0;
        }

        void set(int r, int i, int v) {
            if (holds(r, i)) {
                places[r][i] = v;
            }
        }

        void make(int r, int n, int v) {
            if (!isNumber(r) || n < 0 || n > most) {
                return;
            }
            sizes[r] = n;
            for (int i = 0; i < n; i++) {
                places[r][i] = v;
            }
        }

        void remove(int r) {
            if (isNumber(r)) {
                sizes[r] = MISSING;
            }
        }

        void copyRun(int r, int i, int to, int j, int n) {
            if (holdsRun(r, i, n) && holdsRun(to, j, n)) {
                System.arraycopy(places[r], i, places[to], j, n);
            }
        }

        int howManyThere() {
            int many = 0;
            for (int r = 0; r < sizes.length; r++) {
                if (isThere(r)) {
                    many++;
                }
            }
            return many;
        }

        long digestOn(long before) {
            long h = before;
            for (int r = 0; r < sizes.length; r++) {
                h = 31 * h + sizes[r];
                for (int i = 0; i < sizes[r]; i++) {
                    h = 31 * h + get(r, i);
                }
            }
            return h;
        }
    }

    /** What calls leave behind to be asked for. */
    private static final class Told {
        private int asked = 0;
        private long upper = 0;
        private long lower = 1;
        private int latest = 0;
        private final int[] often = new int[SIZE + 1];

        int found(int finding) {
            latest = finding;
            if (finding >= 0 && finding < often.length) {
                often[finding]++;
            }
            return FINDING;
        }

        void tell(long above, long below) {
            long shared = greatestShared(above, below);
            if (shared > 0) {
                upper = above / shared;
                lower = below / shared;
            }
        }

        private static long greatestShared(long a, long b) {
            long left = a;
            long right = b;
            // Euclid's way takes under a hundred steps for any two longs.
            for (int n = 0; n < 100 && right != 0; n++) {
                long rest = left % right;
                left = right;
                right = rest;
            }
            return left;
        }
    }

    /** Persons, errors, and turns. */
    private static final class Chain {
        private static final int DAY_TURN = -1, ERROR_TURN = -2;

        private int persons = 0;
        private int errors = 0;
        private int mended = 0;
        private int today = 0;
        private int turns = 0;
        private final int[] kind = new int[MOST_PERSONS];
        private final int[] firstDeed = new int[MOST_PERSONS];
        private final int[] stride = new int[MOST_PERSONS];
        private final int[] errorTown = new int[MOST_ERRORS];
        private final int[] errorDay = new int[MOST_ERRORS];
        private final int[] errorPerson = new int[MOST_ERRORS];
        private final int[] errorBy = new int[MOST_ERRORS];
        private final int[] turn = new int[MOST_TURNS];
        private final int[] more = new int[TOWNS];

        void clear() {
            persons = 0;
            errors = 0;
            mended = 0;
            today = 0;
            turns = 0;
        }

        void takeFrom(Chain other) {
            if (other == null) {
                return;
            }
            persons = other.persons;
            errors = other.errors;
            mended = other.mended;
            today = other.today;
            turns = other.turns;
            System.arraycopy(other.kind, 0, kind, 0, MOST_PERSONS);
            System.arraycopy(other.firstDeed, 0, firstDeed, 0, MOST_PERSONS);
            System.arraycopy(other.stride, 0, stride, 0, MOST_PERSONS);
            System.arraycopy(other.errorTown, 0, errorTown, 0, MOST_ERRORS);
            System.arraycopy(other.errorDay, 0, errorDay, 0, MOST_ERRORS);
            System.arraycopy(other.errorPerson, 0, errorPerson, 0, MOST_ERRORS);
            System.arraycopy(other.errorBy, 0, errorBy, 0, MOST_ERRORS);
            System.arraycopy(other.turn, 0, turn, 0, MOST_TURNS);
        }

        boolean isPerson(int p) {
            return p >= 0 && p < persons;
        }

        boolean isError(int i) {
            return i >= 0 && i < errors;
        }

        boolean isMended(int i) {
            return (mended >> i & 1) != 0;
        }

        boolean isOfKind(int p, int asked) {
            return isPerson(p) && isAlso(kind[p], asked);
        }

        private static boolean isAlso(int of, int asked) {
            int is = of;
            for (int n = 0; n < KINDS && is >= 0 && is < KINDS; n++) {
                if (is == asked) {
                    return true;
                }
                is = IS_ALSO[is];
            }
            return false;
        }

        boolean hasErrorsLeft(int n) {
            return n <= MOST_ERRORS - errors;
        }

        boolean hasTurnsLeft(int n) {
            return n <= MOST_TURNS - turns;
        }

        int unmended() {
            return ((1 << errors) - 1) & ~mended;
        }

        int drifters() {
            int many = 0;
            for (int p = 0; p < persons; p++) {
                if (isOfKind(p, DRIFTER)) {
                    many++;
                }
            }
            return many;
        }

        int personTrait(int p, int what) {
            if (!isPerson(p)) {
                return NONE;
            }
            switch (what) {
                case 0:
                    return kind[p];
                case 1:
                    return firstDeed[p];
                case 2:
                    return stride[p];
                case 3:
                    return done(0, today, p);
                default:
                    return done(LAST_TOWN, today, p);
            }
        }

        int errorTrait(int i, int what) {
            if (!isError(i)) {
                return NONE;
            }
            switch (what) {
                case 0:
                    return errorTown[i];
                case 1:
                    return errorDay[i];
                case 2:
                    return errorPerson[i];
                case 3:
                    return errorBy[i];
                default:
                    return isMended(i) ? 1 : 0;
            }
        }

        long digestOn(long before) {
            long h = before;
            for (int p = 0; p < persons; p++) {
                for (int what = 0; what < TRAITS; what++) {
                    h = 31 * h + personTrait(p, what);
                }
            }
            for (int i = 0; i < errors; i++) {
                for (int what = 0; what < TRAITS; what++) {
                    h = 31 * h + errorTrait(i, what);
                }
            }
            return h;
        }

        void addPerson(int of, int deed, int by) {
            if (persons >= MOST_PERSONS) {
                return;
            }
            kind[persons] = of;
            firstDeed[persons] = deed;
            stride[persons] = by;
            persons++;
        }

        void addError(int town, int day, int person, int by) {
            if (errors >= MOST_ERRORS) {
                return;
            }
            errorTown[errors] = town;
            errorDay[errors] = day;
            errorPerson[errors] = person;
            errorBy[errors] = by;
            errors++;
        }

        void turnMended(int i) {
            mended ^= 1 << i;
            addTurn(i);
        }

        void turnErred(int town, int day, int person, int by) {
            addError(town, day, person, by);
            addTurn(ERROR_TURN);
        }

        void turnDay() {
            today++;
            addTurn(DAY_TURN);
        }

        private void addTurn(int what) {
            if (turns < MOST_TURNS) {
                turn[turns] = what;
                turns++;
            }
        }

        void turnBack() {
            if (turns < 1) {
                return;
            }
            turns--;
            int what = turn[turns];
            if (what == DAY_TURN) {
                today--;
            } else if (what == ERROR_TURN) {
                errors--;
            } else {
                mended ^= 1 << what;
            }
        }

        int done(int t, int d, int p) {
            return doneIf(t, d, p, unmended());
        }

        /** What is done if just the errors in real happen. */
        int doneIf(int t, int d, int p, int real) {
            if (!isReached(t, d, p)) {
                return NONE;
            }
            gather(t, d, p, real);
            return arrive(t, d, p);
        }

        int doneIfWarned(int t, int d, int p, int w) {
            if (!isReached(t, d, p) || !isTown(w)) {
                return NONE;
            }
            gather(t, d, p, unmended());
            more[w] += WARNED_BY;
            return arrive(t, d, p);
        }

        private boolean isReached(int t, int d, int p) {
            return isTown(t) && isDay(d) && d >= t && isPerson(p);
        }

        private void gather(int t, int d, int p, int real) {
            for (int s = 0; s < TOWNS; s++) {
                more[s] = 0;
            }
            for (int i = 0; i < errors; i++) {
                int met = (real >> i & 1) == 0 ? NONE : meets(i, t, d, p);
                if (met >= 0 && met < TOWNS) {
                    more[met] += errorBy[i];
                }
            }
        }

        /** The town in which an error comes in on the way that leads to a town and a day; NONE: off it. */
        private int meets(int i, int t, int d, int p) {
            int start = d - t;
            if (start < 0 || errorPerson[i] != p) {
                return NONE;
            }
            int town = errorTown[i];
            if (town == 0) {
                return errorDay[i] <= start ? 0 : NONE;
            }
            return town <= t && errorDay[i] - town == start ? town : NONE;
        }

        int onTheWay(int t, int d, int p) {
            int found = 0;
            for (int i = 0; i < errors; i++) {
                if (meets(i, t, d, p) != NONE) {
                    found |= 1 << i;
                }
            }
            return found;
        }

        private int arrive(int t, int d, int p) {
            int start = d - t;
            int strides = isAlso(kind[p], LAZY) ? start / 2 : start;
            int deed = (firstDeed[p] + strides * stride[p] + more[0]) % DEEDS;
            for (int s = 1; s <= t; s++) {
                deed = (repeated(kind[p], deed, start + s) + more[s]) % DEEDS;
            }
            return deed;
        }

        private static int repeated(int of, int deed, int day) {
            switch (of) {
                case DRIFTER:
                    return deed + 1;
                case LEFT:
                    return 9 - deed;
                case SPY:
                    return day % 3 == 0 ? deed + 2 : deed + 1;
                case FOOL:
                    return deed == 0 ? 5 : deed;
                default:
                    return deed;
            }
        }

        boolean differs(int t, int u, int d, int p, int real) {
            return doneIf(u, d, p, real) != doneIf(t, d - (u - t), p, real);
        }

        int differing(int t, int u, int d) {
            int found = 0;
            for (int p = 0; p < persons; p++) {
                if (differs(t, u, d, p, unmended())) {
                    found |= 1 << p;
                }
            }
            return found;
        }

        /** The fewest errors of a person (the least set of as few) without which two towns agree in it. */
        int fewestMended(int t, int u, int d, int p) {
            int real = unmended();
            int all = onTheWay(u, d, p) & real;
            int fewest = MOST_ERRORS + 1;
            int found = NONE;
            int set = 0;
            for (int n = 0; n < (1 << Integer.bitCount(all)); n++) {
                int many = Integer.bitCount(set);
                if (many < fewest && !differs(t, u, d, p, real & ~set)) {
                    fewest = many;
                    found = set;
                }
                set = nextSet(set, all);
            }
            return found;
        }

        int drifted(int p) {
            return Math.floorMod(done(LAST_TOWN, LAST_DAY, p) - done(0, LAST_DAY - LAST_TOWN, p), DEEDS);
        }

        int idleDays(int p) {
            int many = 0;
            for (int d = 1; d < DAYS; d++) {
                if (done(0, d, p) == done(0, d - 1, p)) {
                    many++;
                }
            }
            return many;
        }

        int likeTowns(int p) {
            int many = 0;
            for (int t = 1; t < TOWNS; t++) {
                if (done(t, LAST_DAY, p) == done(0, LAST_DAY, p)) {
                    many++;
                }
            }
            return many;
        }

        int othersAlike(int p) {
            int many = 0;
            for (int q = 0; q < persons; q++) {
                if (q != p && done(0, today, q) == done(0, today, p)) {
                    many++;
                }
            }
            return many;
        }

        int noughtDays(int p) {
            int many = 0;
            for (int d = 0; d < DAYS; d++) {
                if (done(0, d, p) == 0) {
                    many++;
                }
            }
            return many;
        }
    }

    /** Reads a text to a draft of its own, so that a fault leaves the chain as it is. */
    private static final class Reader {
        private static final int PERSON_SIZE = 3, ERROR_SIZE = 5;
        private final Chain draft = new Chain();

        /** The fault of a text, or NONE: then the draft is its chain. */
        int read(Shelf texts, int t) {
            draft.clear();
            int size = texts.sizeOf(t);
            int i = 0;
            for (int n = 0; n <= MOST_BYTES && i < size; n++) {
                int sign = texts.get(t, i);
                int fault = NONE;
                if (sign == BLANK) {
                    i++;
                } else if (sign == LETTER_X) {
                    fault = readError(texts, t, i);
                    i += ERROR_SIZE;
                } else {
                    fault = readPerson(texts, t, i);
                    i += PERSON_SIZE;
                }
                if (fault != NONE) {
                    return fault;
                }
            }
            return draft.persons > 0 ? NONE : size;
        }

        private int readPerson(Shelf texts, int t, int i) {
            int kind = kindOf(texts.get(t, i));
            if (kind == NONE || draft.errors > 0 || draft.persons >= MOST_PERSONS) {
                return i;
            }
            int deed = figure(texts, t, i + 1, ZERO, DEEDS);
            if (deed == NONE) {
                return i + 1;
            }
            int stride = figure(texts, t, i + 2, ZERO, DEEDS);
            if (stride == NONE) {
                return i + 2;
            }
            draft.addPerson(kind, deed, stride);
            return NONE;
        }

        private int readError(Shelf texts, int t, int i) {
            if (draft.persons == 0 || draft.errors >= MOST_ERRORS_READ) {
                return i;
            }
            int town = figure(texts, t, i + 1, ZERO, TOWNS);
            if (town == NONE) {
                return i + 1;
            }
            int day = figure(texts, t, i + 2, LETTER_A, DAYS);
            if (day == NONE) {
                return i + 2;
            }
            int person = figure(texts, t, i + 3, ZERO, draft.persons);
            if (person == NONE) {
                return i + 3;
            }
            int by = figure(texts, t, i + 4, ZERO, DEEDS);
            if (by == NONE || by == 0) {
                return i + 4;
            }
            draft.addError(town, day, person, by);
            return NONE;
        }

        private static int kindOf(int sign) {
            for (int k = 0; k < KINDS; k++) {
                if (LETTERS[k] == sign) {
                    return k;
                }
            }
            return NONE;
        }

        /** How far a sign is from that for 0, if it is below many; NONE if not, as behind the text's end. */
        private static int figure(Shelf texts, int t, int i, int nought, int many) {
            int far = texts.get(t, i) - nought;
            return texts.holds(t, i) && far >= 0 && far < many ? far : NONE;
        }
    }

    /** By a row of fours, which sets of errors there may have been. */
    private static final class Fitting {
        private long many = 0;
        private int first = NONE;
        private int inEach = 0;
        private int inSome = 0;

        void find(Chain chain, Shelf rows, int r) {
            many = 0;
            first = NONE;
            inEach = chain.unmended();
            inSome = 0;
            int all = onTheWays(chain, rows, r);
            int set = 0;
            for (int n = 0; n < (1 << Integer.bitCount(all)); n++) {
                if (isAllAsTold(chain, rows, r, set)) {
                    add(set);
                }
                set = nextSet(set, all);
            }
            addFree(chain.unmended() & ~all);
        }

        private void add(int set) {
            first = many == 0 ? set : first;
            many++;
            inEach &= set;
            inSome |= set;
        }

        /** Errors off all ways may be in a set that fits, or not. */
        private void addFree(int free) {
            if (many > 0) {
                many <<= Integer.bitCount(free);
                inSome |= free;
            }
        }

        private static int onTheWays(Chain chain, Shelf rows, int r) {
            int found = 0;
            int fours = rows.sizeOf(r) / FOUR;
            for (int f = 0; f < fours; f++) {
                int i = f * FOUR;
                found |= chain.onTheWay(rows.get(r, i), rows.get(r, i + 1), rows.get(r, i + 2));
            }
            return found & chain.unmended();
        }

        private boolean isAllAsTold(Chain chain, Shelf rows, int r, int real) {
            int fours = rows.sizeOf(r) / FOUR;
            for (int f = 0; f < fours; f++) {
                if (!isAsTold(chain, rows, r, f, real)) {
                    return false;
                }
            }
            return true;
        }

        boolean isAsTold(Chain chain, Shelf rows, int r, int f, int real) {
            int i = f * FOUR;
            int deed = chain.doneIf(rows.get(r, i), rows.get(r, i + 1), rows.get(r, i + 2), real);
            return deed == rows.get(r, i + 3);
        }
    }
}
