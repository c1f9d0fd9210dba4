/** Promises 37 to 43: asked, upper, lower, count, finding, findings, digest. */
public final class ToldTest {
    public static void main(String[] args) {
        askedByEach();
        askedNotByOthers();
        upperAndLower();
        count();
        findings();
        digestOfNew();
        digestOfAll();
        Check.end();
    }

    private static void askedByEach() {
        TownRepeated x = new TownRepeated();
        Check.due("asked() before", x.asked(), 0);
        Check.rowOf(x, 0, 8, 9);
        Check.dueAsked("lay", x, x.lay(0, 0, 4), 1, 8);
        Check.dueAsked("at", x, x.at(0, 1), 1, 9);
        Check.dueAsked("mean", x, x.mean(0), 1, 6);
        Check.write(x, 0, "p12d30x1B05");
        x.chain(0);
        Check.dueAsked("person", x, x.person(1, 1), 1, 3);
        Check.dueAsked("error", x, x.error(0, 3), 1, 5);
        Check.dueAsked("since", x, x.since(0, 1, 1), 1, 19);
        Check.dueAsked("worst", x, x.worst(19), 1, 1);
        Check.dueAsked("together", x, x.together(0, 0, 1), 4, 1);
        Check.dueAsked("warn", x, x.warn(2, 2, 1, 5), 1, 1);
        Check.dueAsked("letter", x, x.letter(0, 1, 8), 6, 5);
        x.mend(0, 1);
        x.row(0, 0);
        Check.dueAsked("fits", x, x.fits(0), 1, 0);
        Check.dueAsked("lies", x, x.lies(0), 0, TownRepeated.NONE);
        x.mend(0, 0);
        Check.rowOf(x, 0, 1, 1, 0, 1);
        Check.dueAsked("sure", x, x.sure(0), 0, 1);
        TownRepeated y = Check.chainOf("p00x1B05");
        Check.dueAsked("agree", y, y.agree(0, 1, 1), 1, 1);
    }

    /** Calls that tell nothing by asked(), those that are refused, and NONE leave it as it is. */
    private static void askedNotByOthers() {
        TownRepeated x = Check.chainOf("d12p30x1B05");
        x.row(0, 4);
        x.lay(0, 3, 77);
        x.at(0, 3);
        x.row(1, 5);
        x.copy(0, 0, 1, 0, 1);
        x.tear(1);
        x.text(1, 3);
        x.put(1, 1, 1);
        x.fault(1);
        x.chain(1);
        x.mark(0, 1);
        x.stride(0, 3);
        x.keep(0);
        x.mend(0, 1);
        x.err(0, 1);
        x.day();
        x.undo(2);
        x.on(0);
        x.does(0, 0, 0);
        x.differ(0, 1, 1);
        x.source(0, 0, 0);
        x.next(0, 0, 0, 0);
        x.odds(0, 0, 0, 0, 1);
        x.lots(1, 1);
        x.count(0);
        x.digest();
        Check.due("told by at() still", x.asked(), 77);
        Check.due("refused lay", x.lay(0, 4, 1), TownRepeated.FINDING);
        Check.due("refused mean", x.mean(3), TownRepeated.FINDING);
        Check.due("refused fits", x.fits(0), TownRepeated.FINDING);
        Check.due("since NONE", x.since(0, 4, 1), TownRepeated.NONE);
        Check.due("agree NONE", x.agree(0, 1, 2), TownRepeated.NONE);
        Check.due("warn NONE", x.warn(4, 3, 0, 0), TownRepeated.NONE);
        Check.due("told by at() even now", x.asked(), 77);
    }

    private static void upperAndLower() {
        TownRepeated x = Check.chainOf("p00x1B05");
        Check.due("upper() before", x.upper(), 0);
        Check.due("lower() before", x.lower(), 1);
        x.odds(1, 1, 0, 5, 8);
        Check.due("upper()", x.upper(), 2);
        Check.due("lower()", x.lower(), 3);
        x.odds(1, 1, 0, 5, 13);
        x.fits(0);
        x.row(0, 0);
        x.sure(0);
        x.lies(0);
        x.agree(0, 1, 1);
        Check.due("upper() still", x.upper(), 2);
        Check.due("lower() still", x.lower(), 3);
        x.fits(0);
        Check.due("upper() by fits", x.upper(), 2);
        Check.due("lower() by fits", x.lower(), 1);
        x.odds(1, 1, 0, 9, 8);
        Check.due("upper() of none", x.upper(), 0);
        Check.due("lower() of none", x.lower(), 1);
    }

    private static void dueCounts(String what, TownRepeated x, int... counts) {
        for (int i = 0; i < 9; i++) {
            Check.due(what + ": count(" + i + ")", x.count(i), counts[i]);
        }
    }

    private static void count() {
        TownRepeated x = Check.chainOf("d12s30z00f11d99x1B05");
        dueCounts("by a TEXT", x, 5, 1, 0, 0, 0, 3, 0, 1, 0);
        x.mend(0, 1);
        x.day();
        x.err(0, 1);
        x.row(0, 0);
        x.row(3, 1);
        x.row(3, 2);
        x.text(2, 0);
        x.keep(1);
        x.keep(1);
        dueCounts("later", x, 5, 2, 1, 1, 3, 3, 2, 2, 1);
        Check.due("count(9)", x.count(9), TownRepeated.BAD);
        Check.due("count(-1)", x.count(-1), TownRepeated.BAD);
    }

    private static void findings() {
        TownRepeated x = new TownRepeated();
        Check.due("finding() before", x.finding(), 0);
        for (int f = 1; f <= 5; f++) {
            Check.due("findings(" + f + ") before", x.findings(f), 0);
        }
        x.tear(0);
        x.row(0, -1);
        x.row(0, 0);
        x.mean(0);
        x.at(0, 0);
        x.at(0, 0);
        Check.due("finding() BEYOND", x.finding(), 2);
        x.at(9, 0);
        x.worst(4);
        Check.due("BAD and STATE are none", x.finding(), 2);
        Check.write(x, 0, "p00");
        x.chain(0);
        x.mark(0, 1);
        Check.due("finding() UNLIKE", x.finding(), 3);
        x.row(0, 0);
        Check.due("finding() stays", x.finding(), 3);
        int[] often = {1, 2, 1, 1, 1};
        for (int f = 1; f <= 5; f++) {
            Check.due("findings(" + f + ")", x.findings(f), often[f - 1]);
        }
        Check.due("findings(0)", x.findings(0), TownRepeated.BAD);
        Check.due("findings(6)", x.findings(6), TownRepeated.BAD);
        Check.due("findings(-1)", x.findings(-1), TownRepeated.BAD);
        Check.due("findings(least)", x.findings(Integer.MIN_VALUE), TownRepeated.BAD);
    }

    private static long fold(int... values) {
        long h = 17;
        for (int v : values) {
            h = 31 * h + v;
        }
        return h;
    }

    private static void digestOfNew() {
        TownRepeated x = new TownRepeated();
        long due = fold(0, 0, 0, 0, 0, 0, 0, 0, 0, -1, -1, -1, -1, -1, -1, -1, -1, -1, -1, -1, -1, -1);
        Check.due("digest() of a new one", x.digest(), due);
        Check.due("digest() again", x.digest(), due);
    }

    private static void digestOfAll() {
        TownRepeated x = Check.chainOf("d12 x1B05");
        x.mend(0, 1);
        for (int d = 0; d < 4; d++) {
            x.day();
        }
        x.err(4040, 9);
        x.keep(1);
        Check.rowOf(x, 2, -7, 5);
        x.row(5, 0);
        x.text(1, 2);
        x.put(1, 0, 255);
        long due = fold(1, 2, 1, 4, 6, 1, 2, 2, 1,
            1, 1, 2, 9, 4,
            1, 1, 0, 5, 1, 4, 4, 0, 9, 0,
            -1, 6, -1,
            -1, -1, 2, -7, 5, -1, -1, 0,
            9, 'd', '1', '2', ' ', 'x', '1', 'B', '0', '5', 2, -1, ' ', -1, -1);
        x.at(2, 0);
        Check.due("digest()", x.digest(), due);
        Check.due("digest() tells nothing by asked()", x.asked(), -7);
    }
}
