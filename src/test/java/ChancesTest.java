/** Promises 35 and 36: odds, lots. */
public final class ChancesTest {
    public static void main(String[] args) {
        odds();
        oddsOfTwelve();
        oddsRefused();
        lots();
        lotsRefused();
        Check.end();
    }

    private static void dueOdds(String what, TownRepeated x, int got, long upper, long lower) {
        Check.due(what, got, 1);
        Check.due(what + ": upper()", x.upper(), upper);
        Check.due(what + ": lower()", x.lower(), lower);
    }

    private static void odds() {
        TownRepeated x = Check.chainOf("p00p00x0A01x0A02x0A03x1B15");
        long was = x.digest();
        x.person(0, 2);
        dueOdds("3 by thirds", x, x.odds(0, 0, 0, 3, 4), 2, 9);
        dueOdds("0 by thirds", x, x.odds(0, 0, 0, 0, 4), 8, 27);
        dueOdds("6 by thirds", x, x.odds(0, 0, 0, 6, 4), 1, 27);
        dueOdds("9 by thirds", x, x.odds(0, 0, 0, 9, 4), 0, 1);
        dueOdds("0 by no chance", x, x.odds(0, 0, 0, 0, 0), 1, 1);
        dueOdds("3 by no chance", x, x.odds(0, 0, 0, 3, 0), 0, 1);
        dueOdds("6 for sure", x, x.odds(4, 19, 0, 6, 12), 1, 1);
        dueOdds("0 for sure", x, x.odds(4, 19, 0, 0, 12), 0, 1);
        dueOdds("5 of PERSON 1", x, x.odds(3, 3, 1, 5, 1), 1, 12);
        dueOdds("0 of PERSON 1", x, x.odds(3, 3, 1, 0, 1), 11, 12);
        dueOdds("0 of PERSON 1 elsewhere", x, x.odds(3, 4, 1, 0, 1), 1, 1);
        dueOdds("nothing is done there", x, x.odds(3, 2, 1, 0, 6), 0, 1);
        x.mend(0, 1);
        dueOdds("5, one MENDED", x, x.odds(0, 0, 0, 5, 6), 1, 4);
        dueOdds("3, one MENDED", x, x.odds(0, 0, 0, 3, 6), 1, 4);
        dueOdds("1, one MENDED", x, x.odds(0, 0, 0, 1, 6), 0, 1);
        Check.due("odds tells no asked()", x.asked(), 0);
        x.undo(0);
        Check.due("nothing is changed", x.digest(), was);
        TownRepeated fool = Check.chainOf("f50x1B05x2C05");
        // In TOWN 2 it is 5 whether or not the first happens.
        dueOdds("a FOOL sets it right", fool, fool.odds(2, 2, 0, 5, 9), 1, 4);
        dueOdds("a FOOL sets it right not", fool, fool.odds(2, 2, 0, 0, 9), 3, 4);
    }

    private static void oddsOfTwelve() {
        TownRepeated x = Check.chainOf("p00");
        for (int i = 0; i < 12; i++) {
            x.err(0, 1);
        }
        // Two of twelve (66 times 11 to the 10th), or all: of 12 to the 12th.
        dueOdds("2 by one of 12", x, x.odds(0, 0, 0, 2, 1), 1711870023667L, 8916100448256L);
        dueOdds("2 by halves", x, x.odds(0, 0, 0, 2, 6), 67, 4096);
        dueOdds("2 for sure", x, x.odds(0, 0, 0, 2, 12), 1, 1);
    }

    private static void oddsRefused() {
        TownRepeated x = Check.chainOf("p00p00x0A01");
        x.odds(0, 0, 0, 0, 6);
        int[][] bad = {{-1, 0, 0, 0, 6}, {5, 0, 0, 0, 6}, {0, -1, 0, 0, 6}, {0, 20, 0, 0, 6}, {0, 0, -1, 0, 6},
            {0, 0, 2, 0, 6}, {0, 0, 0, -1, 6}, {0, 0, 0, 10, 6}, {0, 0, 0, 0, -1}, {0, 0, 0, 0, 13}};
        for (int[] b : bad) {
            Check.due("odds BAD", x.odds(b[0], b[1], b[2], b[3], b[4]), TownRepeated.BAD);
        }
        Check.due("upper() as ahead", x.upper(), 1);
        Check.due("lower() as ahead", x.lower(), 2);
        Check.due("without PERSONS", new TownRepeated().odds(0, 0, 0, 0, 0), TownRepeated.BAD);
    }

    private static void dueError(TownRepeated x, int i, int... of) {
        for (int what = 0; what < of.length; what++) {
            Check.dueAsked("error(" + i + ", " + what + ")", x, x.error(i, what), 1, of[what]);
        }
    }

    private static void lots() {
        TownRepeated x = Check.chainOf("p00p00");
        // 48271, then 182605794.
        Check.due("lots(2, 1)", x.lots(2, 1), 0);
        Check.due("ERRORS", x.count(1), 2);
        Check.due("TURNS", x.count(4), 2);
        dueError(x, 0, 1, 13, 0, 3, 0);
        dueError(x, 1, 4, 4, 1, 5, 0);
        // 2147435376: TOWN 1, DAY 268429422 by 20, PERSON 8388419 by 2, by 524276 by 9 and 1.
        Check.due("lots(1, greatest)", x.lots(1, 2147483646), 0);
        dueError(x, 2, 1, 2, 1, 9, 0);
        Check.due("undo(0)", x.undo(0), 3);
        Check.due("no ERRORS", x.count(1), 0);
        TownRepeated drifters = Check.chainOf("d00d00p00d00l00");
        Check.due("in how many they DIFFER", drifters.lots(10, 1), 3);
        // The first of these is on the way of the LEFT one, so now it is one more.
        Check.due("lots(2, 7)", drifters.lots(2, 7), 4);
        Check.due("ERRORS of lots", drifters.count(1), 12);
        dueError(drifters, 0, 1, 13, 3, 3, 0);
        // 337897.
        dueError(drifters, 10, 2, 17, 4, 2, 0);
    }

    private static void lotsRefused() {
        TownRepeated none = new TownRepeated();
        int[][] bad = {{0, 1}, {-1, 1}, {11, 1}, {1, 0}, {1, -1}, {1, 2147483647}, {1, Integer.MIN_VALUE}};
        for (int[] b : bad) {
            Check.due("lots BAD ahead of STATE", none.lots(b[0], b[1]), TownRepeated.BAD);
        }
        Check.due("without PERSONS", none.lots(10, 2147483646), TownRepeated.STATE);
        TownRepeated x = Check.chainOf("p00x0A01x0A01x0A01");
        Check.due("13 ERRORS", x.lots(10, 3), TownRepeated.FULL);
        Check.due("12 ERRORS", x.lots(9, 3) >= 0 ? 1 : 0, 1);
        Check.due("one more", x.lots(1, 3), TownRepeated.FULL);
        Check.due("BAD ahead of FULL", x.lots(1, 0), TownRepeated.BAD);
        x.undo(0);
        for (int n = 0; n < 38; n++) {
            x.mend(0, 1 - n % 2);
        }
        Check.due("41 TURNS", x.lots(3, 3), TownRepeated.FULL);
        Check.due("nothing came", x.count(1), 3);
        Check.due("40 TURNS", x.lots(2, 3) >= 0 ? 1 : 0, 1);
        Check.due("TURNS", x.count(4), 40);
        Check.due("FULL of TURNS", x.lots(1, 3), TownRepeated.FULL);
    }
}
