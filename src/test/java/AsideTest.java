/** Promises 28 to 31: warn, agree, next, letter. */
public final class AsideTest {
    public static void main(String[] args) {
        warn();
        warnFools();
        warnRefused();
        agree();
        agreeTheLeast();
        agreeRefused();
        next();
        letter();
        Check.end();
    }

    private static void warn() {
        TownRepeated x = Check.chainOf("p00");
        long was = x.digest();
        Check.dueAsked("warn(1, 1, 0, 0)", x, x.warn(1, 1, 0, 0), 1, 1);
        Check.dueAsked("warn(4, 4, 0, 0)", x, x.warn(4, 4, 0, 0), 1, 1);
        Check.dueAsked("warn(4, 19, 0, 0)", x, x.warn(4, 19, 0, 0), 16, 1);
        Check.dueAsked("warn(2, 9, 0, 0)", x, x.warn(2, 9, 0, 0), 8, 1);
        Check.due("aside", x.digest(), was);
        for (int d = 0; d < 17; d++) {
            x.day();
        }
        Check.dueAsked("from DAY 17 on", x, x.warn(4, 19, 0, 0), 17, 2);
        x.day();
        Check.dueAsked("from DAY 18 on", x, x.warn(4, 19, 0, 0), 18, 3);
        Check.due("DAY 17 is gone", x.warn(4, 17, 0, 0), TownRepeated.NONE);
        x.day();
        Check.dueAsked("on DAY 19", x, x.warn(4, 19, 0, 0), 19, 4);
        Check.due("DAY 18 is gone", x.warn(4, 18, 0, 0), TownRepeated.NONE);
        Check.due("asked() as ahead", x.asked(), 4);
        for (int i = 0; i < 12; i++) {
            x.err(1190, 5);
        }
        Check.dueAsked("with 12 ERRORS", x, x.warn(1, 19, 0, 0), 19, 1);
        x.mend(0, 1);
        Check.due("it does another", x.warn(1, 19, 0, 0), TownRepeated.NONE);
        Check.dueAsked("it does 5", x, x.warn(1, 19, 0, 5), 19, 1);
    }

    private static void warnFools() {
        TownRepeated x = Check.chainOf("f50");
        Check.dueAsked("a FOOL in TOWN 1", x, x.warn(1, 1, 0, 5), 1, 1);
        Check.dueAsked("a FOOL in TOWN 2 sets it right", x, x.warn(2, 2, 0, 5), 2, 2);
        Check.dueAsked("a FOOL in TOWN 4", x, x.warn(4, 10, 0, 5), 10, 4);
        TownRepeated left = Check.chainOf("l30");
        Check.dueAsked("a LEFT one", left, left.warn(3, 6, 0, 6), 4, 1);
    }

    private static void warnRefused() {
        TownRepeated x = Check.chainOf("p00p00");
        x.warn(2, 9, 0, 0);
        Check.due("it does another", x.warn(1, 1, 0, 3), TownRepeated.NONE);
        Check.due("it does nothing there", x.warn(4, 3, 0, 0), TownRepeated.NONE);
        Check.due("asked() as ahead", x.asked(), 1);
        int[][] bad = {{0, 1, 0, 0}, {-1, 1, 0, 0}, {5, 1, 0, 0}, {1, -1, 0, 0}, {1, 20, 0, 0},
            {1, 1, 2, 0}, {1, 1, -1, 0}, {1, 1, 0, -1}, {1, 1, 0, 10}};
        for (int[] b : bad) {
            Check.due("warn BAD", x.warn(b[0], b[1], b[2], b[3]), TownRepeated.BAD);
        }
    }

    private static void agree() {
        TownRepeated x = Check.chainOf("p00p00x1B01x1B09x1B05x1B13");
        long was = x.digest();
        Check.dueAsked("agree(0, 1, 1)", x, x.agree(0, 1, 1), 2, 4 + 8);
        Check.dueAsked("agree(0, 4, 4)", x, x.agree(0, 4, 4), 2, 4 + 8);
        Check.dueAsked("agree(1, 2, 2)", x, x.agree(1, 2, 2), 0, 0);
        Check.due("aside", x.digest(), was);
        x.mend(3, 1);
        Check.dueAsked("more to be MENDED", x, x.agree(0, 1, 1), 1, 4);
        x.mend(0, 1);
        Check.dueAsked("by another's", x, x.agree(0, 1, 1), 2, 2 + 4);
        x.mend(2, 1);
        Check.dueAsked("by the last", x, x.agree(0, 1, 1), 1, 2);
        TownRepeated drifter = Check.chainOf("d00x1B09");
        Check.dueAsked("by an ERROR they agree", drifter, drifter.agree(0, 1, 1), 0, 0);
        drifter.agree(0, 1, 1);
        Check.due("by none", drifter.agree(0, 1, 2), TownRepeated.NONE);
        Check.due("asked() as ahead", drifter.asked(), 0);
        drifter.mend(0, 1);
        Check.due("what is MENDED stays so", drifter.agree(0, 1, 1), TownRepeated.NONE);
        TownRepeated home = Check.chainOf("f50x0A05x0B05x0C05");
        // 0 on DAY 0, 5 on 1, 0 on 2: a FOOL DOES 5 in TOWN 1, if it is 0.
        Check.dueAsked("by an ERROR in TOWN 0", home, home.agree(0, 1, 1), 1, 1);
        Check.dueAsked("by none more", home, home.agree(0, 1, 2), 0, 0);
        Check.dueAsked("by the first in TOWN 0", home, home.agree(0, 1, 3), 1, 1);
    }

    private static void agreeTheLeast() {
        TownRepeated x = Check.chainOf("p00x1B05x1B05x1B05");
        Check.dueAsked("the least of three", x, x.agree(0, 1, 1), 1, 1);
        // By 1 and 2 (0 and 3), or by 4 and 9 (1 and 2): 7 and 13 more, or 7 and 3, are left.
        TownRepeated y = Check.chainOf("p00x1B01x1B04x1B09x1B02x1B07");
        Check.dueAsked("the least of two", y, y.agree(0, 1, 1), 2, 2 + 4);
        // Two would do, but one is fewer though its bits are more.
        TownRepeated z = Check.chainOf("p00x1B02x1B03x1B06x1B09x1B05");
        Check.dueAsked("the fewest ahead of the least", z, z.agree(0, 1, 1), 1, 16);
        TownRepeated full = Check.chainOf("p00");
        for (int i = 0; i < 12; i++) {
            full.err(1010, 1);
        }
        Check.dueAsked("two of twelve", full, full.agree(0, 1, 1), 2, 3);
        full.mend(0, 1);
        Check.dueAsked("one of eleven", full, full.agree(0, 1, 1), 1, 2);
    }

    private static void agreeRefused() {
        TownRepeated x = Check.chainOf("p00");
        int[][] bad = {{-1, 1, 5}, {0, 5, 5}, {1, 1, 5}, {2, 1, 5}, {0, 2, 1}, {0, 4, 3}, {0, 1, 20}, {0, 1, -1}};
        for (int[] b : bad) {
            Check.due("agree BAD", x.agree(b[0], b[1], b[2]), TownRepeated.BAD);
        }
        TownRepeated none = new TownRepeated();
        Check.dueAsked("without PERSONS", none, none.agree(0, 1, 1), 0, 0);
    }

    private static void next() {
        TownRepeated x = Check.chainOf("p01p00");
        Check.due("next(0, 0, 0, 5)", x.next(0, 0, 0, 5), 5);
        Check.due("next(0, 5, 0, 5)", x.next(0, 5, 0, 5), 5);
        Check.due("next(0, 6, 0, 5)", x.next(0, 6, 0, 5), 15);
        Check.due("next(0, 16, 0, 5)", x.next(0, 16, 0, 5), TownRepeated.NONE);
        Check.due("next(0, 19, 0, 9)", x.next(0, 19, 0, 9), 19);
        Check.due("next(3, 0, 0, 9)", x.next(3, 0, 0, 9), 12);
        Check.due("next(4, 0, 1, 0)", x.next(4, 0, 1, 0), 4);
        Check.due("next(4, 0, 1, 1)", x.next(4, 0, 1, 1), TownRepeated.NONE);
        int[][] bad = {{-1, 0, 0, 0}, {5, 0, 0, 0}, {0, -1, 0, 0}, {0, 20, 0, 0}, {0, 0, 2, 0}, {0, 0, -1, 0},
            {0, 0, 0, 10}, {0, 0, 0, -1}};
        for (int[] b : bad) {
            Check.due("next BAD", x.next(b[0], b[1], b[2], b[3]), TownRepeated.BAD);
        }
    }

    private static void letter() {
        TownRepeated x = Check.chainOf("p00d00p02");
        Check.dueAsked("0 in each", x, x.letter(0, 0, 0), 5, 5);
        Check.dueAsked("5 once", x, x.letter(0, 0, 5), 6, 5);
        Check.dueAsked("behind TOWN 4 to TOWN 0", x, x.letter(4, 0, 5), 6, 5);
        // 0/5, 1/0, 2/1, 3/2, 4/3, 0/4, 1/0.
        Check.dueAsked("of a DRIFTER", x, x.letter(0, 1, 5), 6, 5);
        Check.dueAsked("of a DRIFTER, at once", x, x.letter(0, 1, 4), 5, 5);
        // Twice it in TOWN 0, less 2, 4, 6, 8 in the others: 0/1 1/2 2/2 3/0 4/4 0/0 1/0 2/8 3/2 4/8 0/8
        // 1/6 2/0 3/6 4/6 0/4 1/8 2/4 3/4 4/2 0/6 1/2.
        Check.dueAsked("of one by 2", x, x.letter(0, 2, 1), 21, 20);
        // In TOWN 0 1 on DAY 10, 2 from DAY 11 on; a DAY later in each TOWN: 0/0 1/1 2/1 3/0 4/0 0/0, and
        // 0/1 1/2 2/2 3/1 4/0 0/0 1/1 2/1 3/0 4/0.
        TownRepeated y = Check.chainOf("p00x0K01x0L01");
        Check.dueAsked("the DAY 10 and the DEED 0", y, y.letter(0, 0, 0), 5, 5);
        Check.dueAsked("the DAY 10 and the DEED 1", y, y.letter(0, 0, 1), 9, 5);
        x.letter(0, 2, 1);
        int[][] bad = {{-1, 0, 0}, {5, 0, 0}, {0, 3, 0}, {0, -1, 0}, {0, 0, 10}, {0, 0, -1}};
        for (int[] b : bad) {
            Check.due("letter BAD", x.letter(b[0], b[1], b[2]), TownRepeated.BAD);
        }
        Check.due("asked() as told", x.asked(), 20);
    }
}
