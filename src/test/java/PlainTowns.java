import java.math.BigInteger;
import java.util.ArrayList;
import java.util.Arrays;
import java.util.HashMap;
import java.util.HashSet;
import java.util.List;
import java.util.Map;
import java.util.Set;
import java.util.regex.Matcher;
import java.util.regex.Pattern;

/**
 * The document once more, in the most literal way and with the whole Java library: days and towns are
 * gone through one by one, turns are undone by pictures of how it was, sets are tried one by one.
 * It shares no idea with the class, so that a fault in the one is not a fault in the other.
 */
final class PlainTowns {
    static final int BAD = -1, FULL = -2, FINDING = -3, STATE = -4, NONE = -9;
    private static final int NOTHING = 1, BEYOND = 2, UNLIKE = 3, NOUGHT = 4, SIZE = 5;
    private static final String LETTERS = "pdzlsf";

    /** How it is: copied whole for every turn and for every kept chain. */
    private static final class Picture {
        String kinds = "";
        int[] first = {};
        int[] stride = {};
        List<int[]> errors = new ArrayList<>();
        Set<Integer> mended = new HashSet<>();
        int today = 0;
        List<Picture> past = new ArrayList<>();

        Picture copy() {
            Picture c = new Picture();
            c.kinds = kinds;
            c.first = first.clone();
            c.stride = stride.clone();
            c.errors = new ArrayList<>(errors);
            c.mended = new HashSet<>(mended);
            c.today = today;
            c.past = new ArrayList<>(past);
            return c;
        }
    }

    private final int[][] rows = new int[6][];
    private final byte[][] texts = new byte[4][];
    private final Picture[] kept = new Picture[3];
    private final int[] found = new int[6];
    private Picture now = new Picture();
    private int latest = 0;
    private int asked = 0;
    private BigInteger upper = BigInteger.ZERO;
    private BigInteger lower = BigInteger.ONE;
    private final Map<Long, int[][]> tables = new HashMap<>();

    private int find(int f) {
        latest = f;
        found[f]++;
        return FINDING;
    }

    private static boolean within(int v, int least, int most) {
        return v >= least && v <= most;
    }

    private int persons() {
        return now.kinds.length();
    }

    private boolean isPerson(int p) {
        return within(p, 0, persons() - 1);
    }

    // ---- 1

    int row(int r, int n) {
        if (!within(r, 0, 5) || n > 40) return BAD;
        if (n < 0) return find(SIZE);
        rows[r] = new int[n];
        return n;
    }

    int lay(int r, int i, int v) {
        int was = at(r, i);
        if (was == 1) rows[r][i] = v;
        return was;
    }

    int at(int r, int i) {
        if (!within(r, 0, 5)) return BAD;
        if (rows[r] == null) return find(NOTHING);
        if (!within(i, 0, rows[r].length - 1)) return find(BEYOND);
        asked = rows[r][i];
        return 1;
    }

    int tear(int r) {
        if (!within(r, 0, 5)) return BAD;
        if (rows[r] == null) return find(NOTHING);
        rows[r] = null;
        return 1;
    }

    int copy(int r, int i, int to, int j, int n) {
        if (!within(r, 0, 5) || !within(to, 0, 5)) return BAD;
        if (n < 0) return find(SIZE);
        if (rows[r] == null || rows[to] == null) return find(NOTHING);
        if (i < 0 || j < 0 || (long) i + n > rows[r].length || (long) j + n > rows[to].length) return find(BEYOND);
        int[] ahead = rows[r].clone();
        for (int k = 0; k < n; k++) rows[to][j + k] = ahead[i + k];
        return 1;
    }

    int mean(int r) {
        if (!within(r, 0, 5)) return BAD;
        if (rows[r] == null) return find(NOTHING);
        if (rows[r].length == 0) return find(NOUGHT);
        BigInteger sum = BigInteger.ZERO;
        for (int v : rows[r]) sum = sum.add(BigInteger.valueOf(v));
        asked = sum.divide(BigInteger.valueOf(rows[r].length)).intValueExact();
        return 1;
    }

    int text(int t, int n) {
        if (!within(t, 0, 3) || n > 60) return BAD;
        if (n < 0) return find(SIZE);
        texts[t] = new byte[n];
        Arrays.fill(texts[t], (byte) ' ');
        return n;
    }

    int put(int t, int i, int v) {
        if (!within(t, 0, 3)) return BAD;
        if (texts[t] == null) return find(NOTHING);
        if (!within(i, 0, texts[t].length - 1)) return find(BEYOND);
        int was = texts[t][i];
        texts[t][i] = (byte) v;
        return was + 1000;
    }

    private static Pattern language(int persons) {
        return Pattern.compile(" *(?:[" + LETTERS + "][0-9][0-9] *){" + persons + "}"
            + "(?:x[0-4][A-T][0-" + (persons - 1) + "][1-9] *){0,6}");
    }

    private static String signsOf(byte[] bytes) {
        StringBuilder all = new StringBuilder();
        for (byte b : bytes) all.append((char) (b & 255));
        return all.toString();
    }

    /** The fault by what the language can still go on to, beginning by beginning. */
    private static int faultOf(String signs) {
        for (int n = 0; n <= signs.length(); n++) {
            boolean goesOn = false;
            boolean ends = false;
            for (int k = 1; k <= 5; k++) {
                Matcher m = language(k).matcher(signs.substring(0, n));
                ends |= m.matches();
                goesOn |= m.hitEnd();
            }
            if (!ends && !goesOn) return n - 1;
            if (n == signs.length()) return ends ? NONE : n;
        }
        throw new IllegalStateException();
    }

    int fault(int t) {
        if (!within(t, 0, 3)) return BAD;
        if (texts[t] == null) return find(NOTHING);
        return faultOf(signsOf(texts[t]));
    }

    int chain(int t) {
        int fault = fault(t);
        if (fault == BAD || fault == FINDING) return fault;
        if (fault != NONE) return STATE;
        now = new Picture();
        Arrays.fill(kept, null);
        List<int[]> persons = new ArrayList<>();
        Matcher m = Pattern.compile("x(.)(.)(.)(.)|([a-z])(.)(.)").matcher(signsOf(texts[t]));
        while (m.find()) {
            if (m.group(1) != null) {
                now.errors.add(new int[] {Integer.parseInt(m.group(1)), m.group(2).charAt(0) - 'A',
                    Integer.parseInt(m.group(3)), Integer.parseInt(m.group(4))});
            } else {
                now.kinds += m.group(5);
                persons.add(new int[] {Integer.parseInt(m.group(6)), Integer.parseInt(m.group(7))});
            }
        }
        now.first = persons.stream().mapToInt(v -> v[0]).toArray();
        now.stride = persons.stream().mapToInt(v -> v[1]).toArray();
        return persons();
    }

    private int personValue(int p, int what) {
        return new int[] {LETTERS.indexOf(now.kinds.charAt(p)), now.first[p], now.stride[p],
            deed(0, now.today, p), deed(4, now.today, p)}[what];
    }

    private int errorValue(int i, int what) {
        return what == 4 ? (now.mended.contains(i) ? 1 : 0) : now.errors.get(i)[what];
    }

    int person(int p, int what) {
        if (!isPerson(p) || !within(what, 0, 4)) return BAD;
        asked = personValue(p, what);
        return 1;
    }

    int error(int i, int what) {
        if (!within(i, 0, now.errors.size() - 1) || !within(what, 0, 4)) return BAD;
        asked = errorValue(i, what);
        return 1;
    }

    int mark(int p, int kind) {
        if (!isPerson(p) || !within(kind, 1, 5)) return BAD;
        String of = new String[] {"", "ds", "zf", "l", "s", "f"}[kind];
        if (of.indexOf(now.kinds.charAt(p)) < 0) return find(UNLIKE);
        int n = 0;
        if (kind == 1) n = (deed(4, 19, p) - deed(0, 15, p) + 10) % 10;
        if (kind == 2) for (int d = 1; d <= 19; d++) n += deed(0, d, p) == deed(0, d - 1, p) ? 1 : 0;
        if (kind == 3) for (int t = 1; t <= 4; t++) n += deed(t, 19, p) == deed(0, 19, p) ? 1 : 0;
        if (kind == 4) for (int q = 0; q < persons(); q++) n += q != p && deed(0, now.today, q) == deed(0, now.today, p) ? 1 : 0;
        if (kind == 5) for (int d = 0; d <= 19; d++) n += deed(0, d, p) == 0 ? 1 : 0;
        return n;
    }

    int stride(int p, int v) {
        if (!isPerson(p) || !within(v, 0, 9)) return BAD;
        if (!now.past.isEmpty()) return STATE;
        int was = now.stride[p];
        now.stride[p] = v;
        return was;
    }

    // ---- 2

    private void turn() {
        Picture was = now.copy();
        now.past.add(was);
    }

    int mend(int i, int is) {
        if (!within(i, 0, now.errors.size() - 1) || !within(is, 0, 1)) return BAD;
        if (errorValue(i, 4) == is) return STATE;
        if (now.past.size() >= 40) return FULL;
        turn();
        if (is == 1) now.mended.add(i);
        else now.mended.remove(i);
        return now.mended.size();
    }

    int err(int told, int by) {
        if (told < 0 || told / 1000 > 4 || told % 1000 >= 200 || !isPerson(told % 10) || !within(by, 1, 9)) return BAD;
        if (now.errors.size() >= 12 || now.past.size() >= 40) return FULL;
        turn();
        now.errors.add(new int[] {told / 1000, told % 1000 / 10, told % 10, by});
        return now.errors.size() - 1;
    }

    int day() {
        if (persons() == 0 || now.today == 19) return STATE;
        if (now.past.size() >= 40) return FULL;
        turn();
        return ++now.today;
    }

    int undo(int n) {
        if (!within(n, 0, now.past.size())) return BAD;
        int many = now.past.size() - n;
        if (many > 0) now = now.past.get(n).copy();
        return many;
    }

    int keep(int k) {
        if (!within(k, 0, 2)) return BAD;
        if (persons() == 0) return STATE;
        kept[k] = now.copy();
        return now.past.size();
    }

    int on(int k) {
        if (!within(k, 0, 2)) return BAD;
        if (kept[k] == null) return find(NOTHING);
        now = kept[k].copy();
        return now.past.size();
    }

    // ---- 3

    private Set<Integer> open() {
        Set<Integer> all = new HashSet<>();
        for (int i = 0; i < now.errors.size(); i++) if (!now.mended.contains(i)) all.add(i);
        return all;
    }

    private static int bitsOf(Set<Integer> all) {
        int bits = 0;
        for (int i : all) bits += 1 << i;
        return bits;
    }

    /** What a person does in each town on each day, if just the errors in bits happen and extra, too. */
    private int[][] table(int p, int bits, int[] extra) {
        int[][] did = new int[5][20];
        for (int[] town : did) Arrays.fill(town, NONE);
        char kind = now.kinds.charAt(p);
        for (int d = 0; d < 20; d++) {
            for (int t = 0; t <= 4 && t <= d; t++) {
                int v;
                if (t == 0 && d == 0) {
                    v = now.first[p];
                } else if (t == 0) {
                    v = did[0][d - 1];
                    boolean lazy = kind == 'z' || kind == 'f';
                    if (!lazy || d % 2 == 0) v += now.stride[p];
                } else {
                    v = did[t - 1][d - 1];
                    if (kind == 'd') v = v + 1;
                    else if (kind == 's') v = v + 1 + (d % 3 == 0 ? 1 : 0);
                    else if (kind == 'l') v = 9 - v;
                    else if (kind == 'f' && v == 0) v = 5;
                }
                for (int i = 0; i < now.errors.size(); i++) {
                    int[] e = now.errors.get(i);
                    if ((bits >> i & 1) == 1 && e[0] == t && e[1] == d && e[2] == p) v += e[3];
                }
                if (extra != null && extra[0] == t && extra[1] == d) v += extra[2];
                did[t][d] = v % 10;
            }
        }
        return did;
    }

    private int deedIf(int t, int d, int p, int bits) {
        int his = 0;
        for (int i = 0; i < now.errors.size(); i++) if (now.errors.get(i)[2] == p) his |= 1 << i;
        int which = bits & his;
        return tables.computeIfAbsent((long) which << 3 | p, k -> table(p, which, null))[t][d];
    }

    private int deed(int t, int d, int p) {
        return deedIf(t, d, p, bitsOf(open()));
    }

    boolean isMended(int i) {
        return now.mended.contains(i);
    }

    /** Tables are good for one call alone: the next may change what there is. */
    void forget() {
        tables.clear();
    }

    private boolean differ(int t, int u, int d, int p, int bits) {
        return deedIf(u, d, p, bits) != deedIf(t, d - (u - t), p, bits);
    }

    int does(int t, int d, int p) {
        if (!within(t, 0, 4) || !within(d, 0, 19) || !isPerson(p)) return BAD;
        return deed(t, d, p);
    }

    int differ(int t, int u, int d) {
        if (!within(t, 0, 4) || !within(u, 0, 4) || t >= u || !within(d, u, 19)) return BAD;
        int bits = 0;
        for (int p = 0; p < persons(); p++) if (differ(t, u, d, p, bitsOf(open()))) bits |= 1 << p;
        return bits;
    }

    int since(int t, int u, int p) {
        if (!within(t, 0, 4) || !within(u, 0, 4) || t >= u || !isPerson(p)) return BAD;
        List<Integer> days = new ArrayList<>();
        for (int d = u; d <= 19; d++) if (differ(t, u, d, p, bitsOf(open()))) days.add(d);
        if (days.isEmpty()) return NONE;
        asked = days.size();
        return days.get(0);
    }

    int worst(int d) {
        if (!within(d, 4, 19)) return BAD;
        if (persons() == 0) return STATE;
        int best = 1;
        for (int t = 2; t <= 4; t++) if (Integer.bitCount(differ(t - 1, t, d)) > Integer.bitCount(differ(best - 1, best, d))) best = t;
        asked = Integer.bitCount(differ(best - 1, best, d));
        return best;
    }

    int source(int t, int d, int p) {
        if (!within(t, 0, 4) || !within(d, t, 19) || !isPerson(p)) return BAD;
        int bits = 0;
        for (int i : open()) {
            Set<Integer> without = open();
            without.remove(i);
            if (deedIf(t, d, p, bitsOf(without)) != deed(t, d, p)) bits |= 1 << i;
        }
        return bits;
    }

    int together(int t, int p, int q) {
        if (!within(t, 0, 4) || !isPerson(p) || !isPerson(q) || p == q) return BAD;
        List<Integer> days = new ArrayList<>();
        for (int d = t; d <= 19; d++) if (deed(t, d, p) == deed(t, d, q)) days.add(d);
        asked = days.isEmpty() ? NONE : days.get(0);
        return days.size();
    }

    // ---- 4

    int warn(int t, int d, int p, int deed) {
        if (!within(t, 1, 4) || !within(d, 0, 19) || !isPerson(p) || !within(deed, 0, 9)) return BAD;
        if (deed(t, d, p) != deed) return NONE;
        for (int e = now.today; e <= d; e++) {
            for (int w = 1; w <= t; w++) {
                if (table(p, bitsOf(open()), new int[] {w, e, 5})[t][d] != deed) {
                    asked = w;
                    return e;
                }
            }
        }
        return NONE;
    }

    int agree(int t, int u, int d) {
        if (!within(t, 0, 4) || !within(u, 0, 4) || t >= u || !within(d, u, 19)) return BAD;
        int open = bitsOf(open());
        for (int few = 0; few <= 12; few++) {
            for (int set = 0; set <= open; set++) {
                if ((set & ~open) != 0 || Integer.bitCount(set) != few) continue;
                boolean agrees = true;
                for (int p = 0; p < persons() && agrees; p++) agrees = !differ(t, u, d, p, open & ~set);
                if (agrees) {
                    asked = set;
                    return few;
                }
            }
        }
        return NONE;
    }

    int next(int t, int d, int p, int deed) {
        if (!within(t, 0, 4) || !within(d, 0, 19) || !isPerson(p) || !within(deed, 0, 9)) return BAD;
        for (int e = d; e <= 19; e++) if (deed(t, e, p) == deed) return e;
        return NONE;
    }

    int letter(int t, int p, int deed) {
        if (!within(t, 0, 4) || !isPerson(p) || !within(deed, 0, 9)) return BAD;
        List<String> been = new ArrayList<>();
        int town = t;
        int is = deed;
        while (!been.contains(town + "/" + is)) {
            been.add(town + "/" + is);
            is = deed(town, 10 + is, p);
            town = town == 4 ? 0 : town + 1;
        }
        asked = been.size() - been.indexOf(town + "/" + is);
        return been.size();
    }

    // ---- 5

    private int refusedFours(int r) {
        if (!within(r, 0, 5)) return BAD;
        if (persons() == 0) return STATE;
        if (rows[r] == null) return find(NOTHING);
        if (rows[r].length % 4 != 0) return find(SIZE);
        for (int i = 0; i < rows[r].length; i++) {
            int most = new int[] {4, 19, persons() - 1, 9}[i % 4];
            if (!within(rows[r][i], 0, most)) return find(UNLIKE);
        }
        return 0;
    }

    private boolean isTrue(int r, int f, int bits) {
        int[] v = rows[r];
        return deedIf(v[4 * f], v[4 * f + 1], v[4 * f + 2], bits) == v[4 * f + 3];
    }

    private List<Integer> fitting(int r) {
        List<Integer> all = new ArrayList<>();
        int open = bitsOf(open());
        for (int set = 0; set <= open; set++) {
            boolean fits = (set & ~open) == 0;
            for (int f = 0; f < rows[r].length / 4 && fits; f++) fits = isTrue(r, f, set);
            if (fits) all.add(set);
        }
        return all;
    }

    int fits(int r) {
        int refused = refusedFours(r);
        if (refused != 0) return refused;
        List<Integer> all = fitting(r);
        upper = BigInteger.valueOf(all.size());
        lower = BigInteger.ONE;
        asked = all.isEmpty() ? NONE : all.get(0);
        return 1;
    }

    int sure(int r) {
        int refused = refusedFours(r);
        if (refused != 0) return refused;
        List<Integer> all = fitting(r);
        if (all.isEmpty()) return find(NOUGHT);
        int each = 0;
        int none = 0;
        for (int i : open()) {
            int e = i;
            if (all.stream().allMatch(s -> (s >> e & 1) == 1)) each |= 1 << i;
            if (all.stream().noneMatch(s -> (s >> e & 1) == 1)) none |= 1 << i;
        }
        asked = none;
        return each;
    }

    int lies(int r) {
        int refused = refusedFours(r);
        if (refused != 0) return refused;
        List<Integer> all = new ArrayList<>();
        for (int f = 0; f < rows[r].length / 4; f++) if (!isTrue(r, f, bitsOf(open()))) all.add(f);
        asked = all.isEmpty() ? NONE : all.get(0);
        return all.size();
    }

    // ---- 6

    int odds(int t, int d, int p, int deed, int h) {
        if (!within(t, 0, 4) || !within(d, 0, 19) || !isPerson(p) || !within(deed, 0, 9) || !within(h, 0, 12)) return BAD;
        int open = bitsOf(open());
        int many = open().size();
        BigInteger sum = BigInteger.ZERO;
        for (int set = 0; set <= open; set++) {
            if ((set & ~open) != 0 || deedIf(t, d, p, set) != deed) continue;
            int happen = Integer.bitCount(set);
            sum = sum.add(BigInteger.valueOf(h).pow(happen).multiply(BigInteger.valueOf(12 - h).pow(many - happen)));
        }
        BigInteger all = BigInteger.valueOf(12).pow(many);
        BigInteger shared = sum.gcd(all);
        upper = sum.divide(shared);
        lower = all.divide(shared);
        return 1;
    }

    int lots(int n, int seed) {
        if (!within(n, 1, 10) || !within(seed, 1, 2147483646)) return BAD;
        if (persons() == 0) return STATE;
        if (now.errors.size() + n > 12 || now.past.size() + n > 40) return FULL;
        BigInteger lot = BigInteger.valueOf(seed);
        for (int i = 0; i < n; i++) {
            lot = lot.multiply(BigInteger.valueOf(48271)).mod(BigInteger.valueOf(2147483647));
            long v = lot.longValueExact();
            int told = (int) (v % 5 * 1000 + v / 8 % 20 * 10 + v / 256 % persons());
            err(told, (int) (v / 4096 % 9 + 1));
        }
        tables.clear();
        return Integer.bitCount(differ(0, 4, 19));
    }

    // ---- 7

    int asked() {
        return asked;
    }

    long upper() {
        return upper.longValueExact();
    }

    long lower() {
        return lower.longValueExact();
    }

    int count(int what) {
        switch (what) {
            case 0: return persons();
            case 1: return now.errors.size();
            case 2: return now.mended.size();
            case 3: return now.today;
            case 4: return now.past.size();
            case 5: return now.kinds.replaceAll("[^ds]", "").length();
            case 6: return (int) Arrays.stream(rows).filter(v -> v != null).count();
            case 7: return (int) Arrays.stream(texts).filter(v -> v != null).count();
            case 8: return (int) Arrays.stream(kept).filter(v -> v != null).count();
            default: return BAD;
        }
    }

    int finding() {
        return latest;
    }

    int findings(int f) {
        return within(f, 1, 5) ? found[f] : BAD;
    }

    long digest() {
        List<Integer> all = new ArrayList<>();
        for (int what = 0; what <= 8; what++) all.add(count(what));
        for (int p = 0; p < persons(); p++) for (int what = 0; what <= 4; what++) all.add(personValue(p, what));
        for (int i = 0; i < now.errors.size(); i++) for (int what = 0; what <= 4; what++) all.add(errorValue(i, what));
        for (Picture k : kept) all.add(k == null ? -1 : k.past.size());
        for (int[] r : rows) {
            all.add(r == null ? -1 : r.length);
            if (r != null) for (int v : r) all.add(v);
        }
        for (byte[] t : texts) {
            all.add(t == null ? -1 : t.length);
            if (t != null) for (byte v : t) all.add((int) v);
        }
        long h = 17;
        for (int v : all) h = 31 * h + v;
        return h;
    }
}
