/** Promises 12 to 15: person, error, mark, stride. */
public final class ChainTest {
    private static final int UNLIKE = 3;

    public static void main(String[] args) {
        person();
        error();
        markOfDrifters();
        markOfLazyOnes();
        markOfLeftOnes();
        markOfSpies();
        markOfFools();
        markRefused();
        stride();
        Check.end();
    }

    private static void person() {
        TownRepeated x = Check.chainOf("p01d12z23l34s45");
        for (int p = 0; p < 5; p++) {
            Check.dueAsked("person(" + p + ", 0)", x, x.person(p, 0), 1, p);
            Check.dueAsked("person(" + p + ", 1)", x, x.person(p, 1), 1, p);
            Check.dueAsked("person(" + p + ", 2)", x, x.person(p, 2), 1, p + 1);
            Check.dueAsked("person(" + p + ", 3)", x, x.person(p, 3), 1, p);
            Check.dueAsked("person(" + p + ", 4)", x, x.person(p, 4), 1, TownRepeated.NONE);
        }
        for (int d = 1; d <= 4; d++) {
            x.day();
            Check.dueAsked("today " + d, x, x.person(0, 3), 1, d);
            Check.dueAsked("today in TOWN 4, " + d, x, x.person(1, 4), 1, d < 4 ? TownRepeated.NONE : 5);
        }
        Check.due("person(5, 0)", x.person(5, 0), TownRepeated.BAD);
        Check.due("person(-1, 0)", x.person(-1, 0), TownRepeated.BAD);
        Check.due("person(0, 5)", x.person(0, 5), TownRepeated.BAD);
        Check.due("person(0, -1)", x.person(0, -1), TownRepeated.BAD);
        Check.due("asked() as ahead", x.asked(), 5);
        TownRepeated fool = Check.chainOf("f98");
        Check.dueAsked("a FOOL", fool, fool.person(0, 0), 1, 5);
    }

    private static void error() {
        TownRepeated x = Check.chainOf("p01p01x3K17");
        int[] of = {3, 10, 1, 7, 0};
        for (int what = 0; what < 5; what++) {
            Check.dueAsked("error(0, " + what + ")", x, x.error(0, what), 1, of[what]);
        }
        x.mend(0, 1);
        Check.dueAsked("error(0, 4) MENDED", x, x.error(0, 4), 1, 1);
        x.err(2190, 4);
        int[] other = {2, 19, 0, 4, 0};
        for (int what = 0; what < 5; what++) {
            Check.dueAsked("error(1, " + what + ")", x, x.error(1, what), 1, other[what]);
        }
        x.error(0, 4);
        Check.due("error(2, 0)", x.error(2, 0), TownRepeated.BAD);
        Check.due("error(-1, 0)", x.error(-1, 0), TownRepeated.BAD);
        Check.due("error(0, 5)", x.error(0, 5), TownRepeated.BAD);
        Check.due("error(0, -1)", x.error(0, -1), TownRepeated.BAD);
        Check.due("asked() as ahead", x.asked(), 1);
    }

    private static void markOfDrifters() {
        TownRepeated x = Check.chainOf("d02s51d00x4T07x1Q26");
        // 4 TOWNS by 1 each; an error of 7 more in TOWN 4 on DAY 19.
        Check.due("mark of a DRIFTER", x.mark(0, 1), 1);
        x.mend(0, 1);
        Check.due("mark of a DRIFTER, MENDED", x.mark(0, 1), 4);
        // DAYS 16 to 19: only 18 is divided by 3.
        Check.due("mark of a SPY as a DRIFTER", x.mark(1, 1), 5);
        TownRepeated y = Check.chainOf("d13x0R02x3S06");
        // 1 and 45 in TOWN 0 on DAY 15: 6; in TOWN 4 on DAY 19 6 and 4 and 6.
        Check.due("mark of a DRIFTER from 6 to 6", y.mark(0, 1), 0);
        y.mend(1, 1);
        Check.due("mark of a DRIFTER from 6 to 0", y.mark(0, 1), 4);
        // TOWN 1 on DAY 16 is on the way to TOWN 4 on DAY 19.
        Check.due("mark by an error on the way", x.mark(2, 1), 0);
    }

    private static void markOfLazyOnes() {
        TownRepeated x = Check.chainOf("z73f05z10x0D01");
        // Odd DAYS, but for an error on DAY 3.
        Check.due("mark of a LAZY one", x.mark(0, 2), 9);
        x.mend(0, 1);
        Check.due("mark of a LAZY one, MENDED", x.mark(0, 2), 10);
        Check.due("mark of a FOOL as a LAZY one", x.mark(1, 2), 10);
        Check.due("mark of one that stands", x.mark(2, 2), 19);
    }

    private static void markOfLeftOnes() {
        // 0 each day: 9, 0, 9, 0 in TOWNS 1 to 4.
        TownRepeated still = Check.chainOf("l00");
        Check.due("mark of a LEFT one", still.mark(0, 3), 2);
        // 19 in TOWN 0 is 9; TOWNS 1 to 4: 9 less 8, 7, 9 less 6, 5.
        TownRepeated x = Check.chainOf("l01");
        Check.due("mark of a LEFT one that goes on", x.mark(0, 3), 0);
        // DAY 19 5; TOWN 1 9 less 4, 2 3, 3 9 less 2, 4 1.
        TownRepeated z = Check.chainOf("l61");
        Check.due("mark of a LEFT one alike in TOWN 1", z.mark(0, 3), 1);
        // 5 more each day: DAY 19 6; TOWN 1 by 1 8, TOWN 2 by 6 6, TOWN 3 by 1 8, TOWN 4 by 6 6.
        TownRepeated y = Check.chainOf("l15");
        Check.due("mark of a LEFT one by 5", y.mark(0, 3), 2);
    }

    private static void markOfSpies() {
        TownRepeated x = Check.chainOf("s21p21z20d31s30");
        Check.due("mark of a SPY", x.mark(0, 4), 2);
        Check.due("mark of another SPY", x.mark(4, 4), 1);
        x.day();
        Check.due("mark of a SPY on DAY 1", x.mark(0, 4), 2);
        Check.due("mark of another SPY on DAY 1", x.mark(4, 4), 2);
        x.day();
        Check.due("mark of another SPY on DAY 2", x.mark(4, 4), 0);
    }

    private static void markOfFools() {
        TownRepeated x = Check.chainOf("f05f10x0B11x0D19");
        // 0 on DAYS 0 and 1, 5 on 2 and 3, 0 on 4 and 5, ..: 0, 1, 4, 5, 8, 9, 12, 13, 16, 17.
        Check.due("mark of a FOOL", x.mark(0, 5), 10);
        // 1, 2, 2, 1 and 1 from there on.
        Check.due("mark of a FOOL that is never 0", x.mark(1, 5), 0);
        TownRepeated y = Check.chainOf("f10x0D09");
        Check.due("mark of a FOOL from DAY 3 on", y.mark(0, 5), 17);
    }

    private static void markRefused() {
        TownRepeated x = Check.chainOf("p11d11z11l11s11");
        int[][] likes = {{}, {1}, {2}, {3}, {1, 4}};
        int unlike = 0;
        for (int p = 0; p < 5; p++) {
            for (int kind = 1; kind <= 5; kind++) {
                boolean like = false;
                for (int k : likes[p]) {
                    like |= k == kind;
                }
                int got = x.mark(p, kind);
                if (like) {
                    Check.due("mark(" + p + ", " + kind + ") is told", got >= 0 ? 1 : 0, 1);
                } else {
                    Check.dueFinding("mark(" + p + ", " + kind + ")", x, unlike++, got, UNLIKE);
                }
            }
        }
        TownRepeated fool = Check.chainOf("f11");
        Check.dueFinding("a FOOL is no SPY", fool, 0, fool.mark(0, 4), UNLIKE);
        Check.due("a FOOL is LAZY", fool.mark(0, 2), 10);
        Check.due("mark(0, 0)", x.mark(0, 0), TownRepeated.BAD);
        Check.due("mark(0, 6)", x.mark(0, 6), TownRepeated.BAD);
        Check.due("mark(5, 1)", x.mark(5, 1), TownRepeated.BAD);
        Check.due("mark(-1, 1)", x.mark(-1, 1), TownRepeated.BAD);
    }

    private static void stride() {
        TownRepeated x = Check.chainOf("p03z14x0A01");
        Check.due("stride(0, 9)", x.stride(0, 9), 3);
        Check.due("stride(0, 0)", x.stride(0, 0), 9);
        Check.due("does(0, 5, 0)", x.does(0, 5, 0), 1);
        Check.due("stride(1, 1)", x.stride(1, 1), 4);
        Check.due("does(0, 5, 1)", x.does(0, 5, 1), 3);
        Check.due("no TURN", x.count(4), 0);
        Check.due("stride(2, 0)", x.stride(2, 0), TownRepeated.BAD);
        Check.due("stride(-1, 0)", x.stride(-1, 0), TownRepeated.BAD);
        Check.due("stride(0, 10)", x.stride(0, 10), TownRepeated.BAD);
        Check.due("stride(0, -1)", x.stride(0, -1), TownRepeated.BAD);
        x.day();
        Check.due("stride(0, 10) by TURNS", x.stride(0, 10), TownRepeated.BAD);
        Check.due("stride(0, 1) by TURNS", x.stride(0, 1), TownRepeated.STATE);
        x.undo(0);
        Check.due("stride(0, 1) without TURNS", x.stride(0, 1), 0);
    }
}
