/** Promises 32 to 34: fits, sure, lies. */
public final class FitsTest {
    private static final int NOTHING = 1, UNLIKE = 3, NOUGHT = 4, SIZE = 5;

    public static void main(String[] args) {
        fitsAndSure();
        whatIsMended();
        noneFits();
        theFirst();
        manyErrors();
        lies();
        refused();
        Check.end();
    }

    private static void dueFits(String what, TownRepeated x, int r, int first, long many) {
        Check.dueAsked(what + ": fits", x, x.fits(r), 1, first);
        Check.due(what + ": upper()", x.upper(), many);
        Check.due(what + ": lower()", x.lower(), 1);
    }

    private static void fitsAndSure() {
        TownRepeated x = Check.chainOf("p00p00x0A01x0A02x0A03x1B15");
        long was = x.digest();
        x.row(0, 0);
        dueFits("an empty ROW", x, 0, 0, 16);
        Check.dueAsked("an empty ROW: sure", x, x.sure(0), 0, 0);
        Check.rowOf(x, 0, 0, 0, 0, 3);
        dueFits("3 of PERSON 0", x, 0, 1 + 2, 4);
        Check.dueAsked("3 of PERSON 0: sure", x, x.sure(0), 0, 0);
        Check.rowOf(x, 0, 0, 0, 0, 3, 1, 1, 1, 5);
        dueFits("and 5 of PERSON 1", x, 0, 1 + 2 + 8, 2);
        Check.dueAsked("and 5 of PERSON 1: sure", x, x.sure(0), 8, 0);
        Check.rowOf(x, 0, 0, 0, 0, 1, 4, 4, 1, 0);
        dueFits("1 and 0", x, 0, 1, 1);
        Check.dueAsked("1 and 0: sure", x, x.sure(0), 1, 2 + 4 + 8);
        Check.rowOf(x, 0, 4, 19, 0, 6, 3, 3, 1, 5, 0, 0, 1, 0);
        dueFits("all", x, 0, 15, 1);
        Check.dueAsked("all: sure", x, x.sure(0), 15, 0);
        x.tear(0);
        Check.due("nothing is changed", x.digest(), was);
    }

    private static void whatIsMended() {
        TownRepeated x = Check.chainOf("p00p00x0A01x0A02x0A03x1B15");
        x.mend(2, 1);
        Check.rowOf(x, 1, 0, 0, 0, 3);
        dueFits("MENDED: 3", x, 1, 1 + 2, 2);
        Check.dueAsked("MENDED: 3: sure", x, x.sure(1), 1 + 2, 0);
        Check.rowOf(x, 1, 0, 0, 0, 0);
        dueFits("MENDED: 0", x, 1, 0, 2);
        Check.dueAsked("MENDED: 0: sure", x, x.sure(1), 0, 1 + 2);
        Check.rowOf(x, 1, 0, 0, 0, 6);
        dueFits("MENDED: 6", x, 1, TownRepeated.NONE, 0);
        // An ERROR that is none of anything is one that may be or not.
        x.err(4010, 9);
        Check.rowOf(x, 1, 0, 0, 0, 3);
        dueFits("with one of nothing", x, 1, 1 + 2, 4);
        Check.dueAsked("with one of nothing: sure", x, x.sure(1), 1 + 2, 0);
    }

    private static void noneFits() {
        TownRepeated x = Check.chainOf("p00x0A01");
        Check.rowOf(x, 3, 0, 0, 0, 9);
        x.odds(0, 0, 0, 0, 6);
        dueFits("none", x, 3, TownRepeated.NONE, 0);
        x.at(3, 3);
        Check.dueFinding("none: sure", x, 0, x.sure(3), NOUGHT);
        Check.due("asked() as ahead", x.asked(), 9);
        Check.rowOf(x, 3, 4, 3, 0, 0);
        dueFits("it does nothing there", x, 3, TownRepeated.NONE, 0);
        Check.dueFinding("it does nothing there: sure", x, 1, x.sure(3), NOUGHT);
        Check.rowOf(x, 3, 0, 0, 0, 1, 0, 0, 0, 0);
        dueFits("both cannot be", x, 3, TownRepeated.NONE, 0);
        x.odds(0, 0, 0, 0, 6);
        x.sure(3);
        Check.due("sure tells no upper()", x.upper(), 1);
        Check.due("sure tells no lower()", x.lower(), 2);
    }

    private static void theFirst() {
        // By 3, 4 (bits 3), or by 7 (bits 4): the first is the one of least bits, not the fewest.
        TownRepeated x = Check.chainOf("p00x1B03x1B04x1B07");
        Check.rowOf(x, 0, 1, 1, 0, 7);
        dueFits("the first", x, 0, 3, 2);
        // By 7 (bits 1), or by 3 and 4 (bits 6).
        TownRepeated y = Check.chainOf("p00x1B07x1B03x1B04");
        Check.rowOf(y, 0, 1, 1, 0, 7);
        dueFits("the first", y, 0, 1, 2);
    }

    private static void manyErrors() {
        TownRepeated x = Check.chainOf("p00");
        for (int i = 0; i < 12; i++) {
            x.err(0, 1);
        }
        Check.rowOf(x, 0, 0, 0, 0, 2);
        dueFits("two or all of twelve", x, 0, 3, 67);
        Check.dueAsked("two or all: sure", x, x.sure(0), 0, 0);
        Check.rowOf(x, 0, 0, 0, 0, 1);
        dueFits("one or eleven of twelve", x, 0, 1, 24);
        Check.rowOf(x, 0, new int[40]);
        dueFits("ten fours: none or ten", x, 0, 0, 67);
    }

    private static void lies() {
        TownRepeated x = Check.chainOf("p00p01x0A01");
        Check.rowOf(x, 5, 0, 0, 0, 1, 0, 3, 1, 3, 4, 4, 1, 0);
        Check.dueAsked("no lies", x, x.lies(5), 0, TownRepeated.NONE);
        Check.rowOf(x, 5, 0, 0, 0, 1, 0, 3, 1, 4, 4, 4, 1, 0);
        Check.dueAsked("the second", x, x.lies(5), 1, 1);
        Check.rowOf(x, 5, 0, 0, 0, 1, 0, 3, 1, 3, 4, 3, 1, 0, 0, 0, 0, 0);
        Check.dueAsked("the third and fourth", x, x.lies(5), 2, 2);
        Check.rowOf(x, 5, 0, 0, 0, 1);
        x.mend(0, 1);
        Check.dueAsked("as it is now", x, x.lies(5), 1, 0);
        x.row(5, 0);
        Check.dueAsked("an empty ROW", x, x.lies(5), 0, TownRepeated.NONE);
    }

    private static int ask(TownRepeated x, int which, int r) {
        return which == 0 ? x.fits(r) : which == 1 ? x.sure(r) : x.lies(r);
    }

    private static void refused() {
        for (int which = 0; which < 3; which++) {
            String what = new String[] {"fits", "sure", "lies"}[which];
            TownRepeated none = new TownRepeated();
            Check.due(what + "(6) without PERSONS", ask(none, which, 6), TownRepeated.BAD);
            Check.due(what + "(-1) without PERSONS", ask(none, which, -1), TownRepeated.BAD);
            Check.due(what + "(0) without PERSONS", ask(none, which, 0), TownRepeated.STATE);
            none.row(0, 3);
            Check.due(what + " of 3 without PERSONS", ask(none, which, 0), TownRepeated.STATE);
            TownRepeated x = Check.chainOf("p00p00");
            Check.due(what + "(6)", ask(x, which, 6), TownRepeated.BAD);
            Check.due(what + "(-1)", ask(x, which, -1), TownRepeated.BAD);
            Check.dueFinding(what + " of a missing one", x, 0, ask(x, which, 2), NOTHING);
            int size = 0;
            for (int n : new int[] {1, 2, 3, 5, 39}) {
                x.row(0, n);
                x.lay(0, 0, 77);
                Check.dueFinding(what + " of " + n, x, size++, ask(x, which, 0), SIZE);
            }
            int[] above = {5, 20, 2, 10};
            int unlike = 0;
            for (int i = 0; i < 8; i++) {
                for (int v : new int[] {-1, above[i % 4], -9, Integer.MIN_VALUE, Integer.MAX_VALUE}) {
                    x.row(0, 8);
                    x.lay(0, 3, 9);
                    x.lay(0, i, v);
                    Check.dueFinding(what + " by " + v + " at " + i, x, unlike++, ask(x, which, 0), UNLIKE);
                }
            }
            Check.due("asked() is lay()'s", x.asked(), 0);
            Check.due("upper() as ahead", x.upper(), 0);
            Check.rowOf(x, 0, 4, 19, 1, 0);
            Check.due(what + " of the greatest", ask(x, which, 0), which == 0 ? 1 : 0);
            Check.rowOf(x, 0, 4, 19, 1, 9);
            Check.due(what + " of the greatest DEED", ask(x, which, 0), new int[] {1, TownRepeated.FINDING, 1}[which]);
        }
    }
}
