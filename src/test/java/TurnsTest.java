/** Promises 16 to 21: mend, err, day, undo, keep, on. */
public final class TurnsTest {
    private static final int NOTHING = 1;

    public static void main(String[] args) {
        mend();
        err();
        errRefused();
        day();
        fullTurns();
        undo();
        keepAndOn();
        keepRefused();
        Check.end();
    }

    private static void mend() {
        TownRepeated x = Check.chainOf("p00x0A01x0A02x0A04");
        Check.due("mend(2, 1)", x.mend(2, 1), 1);
        Check.due("does(0, 0, 0)", x.does(0, 0, 0), 3);
        Check.due("mend(0, 1)", x.mend(0, 1), 2);
        Check.due("does(0, 0, 0) then", x.does(0, 0, 0), 2);
        Check.due("mend(2, 0)", x.mend(2, 0), 1);
        Check.due("does(0, 0, 0) again", x.does(0, 0, 0), 6);
        Check.due("TURNS", x.count(4), 3);
        Check.due("mend(0, 1) is so", x.mend(0, 1), TownRepeated.STATE);
        Check.due("mend(1, 0) is so", x.mend(1, 0), TownRepeated.STATE);
        Check.due("mend(3, 1)", x.mend(3, 1), TownRepeated.BAD);
        Check.due("mend(-1, 1)", x.mend(-1, 1), TownRepeated.BAD);
        Check.due("mend(0, 2)", x.mend(0, 2), TownRepeated.BAD);
        Check.due("mend(0, -1)", x.mend(0, -1), TownRepeated.BAD);
        Check.due("TURNS as ahead", x.count(4), 3);
    }

    private static void err() {
        TownRepeated x = Check.chainOf("p00d00x0A01");
        Check.due("err(4191, 9)", x.err(4191, 9), 1);
        Check.due("does(4, 19, 1)", x.does(4, 19, 1), 3);
        Check.due("err(0, 1)", x.err(0, 1), 2);
        Check.due("does(0, 19, 0)", x.does(0, 19, 0), 2);
        Check.due("err(4030, 5) is none of anything", x.err(4030, 5), 3);
        Check.due("does(4, 4, 0)", x.does(4, 4, 0), 2);
        Check.due("ERRORS", x.count(1), 4);
        Check.due("TURNS", x.count(4), 3);
        for (int i = 4; i < 12; i++) {
            Check.due("err(1010, 1)", x.err(1010, 1), i);
        }
        Check.due("a 13th", x.err(1010, 1), TownRepeated.FULL);
        Check.due("BAD ahead of FULL", x.err(1010, 0), TownRepeated.BAD);
        Check.due("TURNS then", x.count(4), 11);
        Check.due("does(1, 1, 0)", x.does(1, 1, 0), 0);
    }

    private static void errRefused() {
        TownRepeated x = Check.chainOf("p00d00");
        int[] bad = {-1, 2, 9, 200, 201, 990, 5000, 5001, 4200, 4002, Integer.MIN_VALUE, Integer.MAX_VALUE, -1000, 1002};
        for (int told : bad) {
            Check.due("err(" + told + ", 1)", x.err(told, 1), TownRepeated.BAD);
        }
        Check.due("err(0, 0)", x.err(0, 0), TownRepeated.BAD);
        Check.due("err(0, 10)", x.err(0, 10), TownRepeated.BAD);
        Check.due("err(0, -1)", x.err(0, -1), TownRepeated.BAD);
        Check.due("without PERSONS", new TownRepeated().err(0, 1), TownRepeated.BAD);
        Check.due("no ERRORS", x.count(1), 0);
        Check.due("err(191, 9)", x.err(191, 9), 0);
    }

    private static void day() {
        TownRepeated x = Check.chainOf("p00");
        for (int d = 1; d <= 19; d++) {
            Check.due("day()", x.day(), d);
        }
        Check.due("day() on DAY 19", x.day(), TownRepeated.STATE);
        Check.due("TODAY", x.count(3), 19);
        Check.due("TURNS", x.count(4), 19);
        Check.due("day() without PERSONS", new TownRepeated().day(), TownRepeated.STATE);
    }

    /** 40 TURNS: FULL comes behind BAD and STATE. */
    private static void fullTurns() {
        TownRepeated x = Check.chainOf("p00x0A01");
        for (int n = 0; n < 40; n++) {
            Check.due("TURN " + n, x.mend(0, 1 - n % 2), 1 - n % 2);
        }
        Check.due("mend is FULL", x.mend(0, 1), TownRepeated.FULL);
        Check.due("mend STATE ahead of FULL", x.mend(0, 0), TownRepeated.STATE);
        Check.due("mend BAD ahead of FULL", x.mend(1, 1), TownRepeated.BAD);
        Check.due("err is FULL", x.err(0, 1), TownRepeated.FULL);
        Check.due("err BAD ahead of FULL", x.err(1, 1), TownRepeated.BAD);
        Check.due("day is FULL", x.day(), TownRepeated.FULL);
        Check.due("lots is FULL", x.lots(1, 1), TownRepeated.FULL);
        Check.due("undo(39)", x.undo(39), 1);
        Check.due("err as the 40th", x.err(0, 1), 1);
        Check.due("undo(39) again", x.undo(39), 1);
        Check.due("day goes by", x.day(), 1);
        Check.due("undo(20)", x.undo(20), 20);
        for (int d = 1; d <= 19; d++) {
            x.day();
        }
        Check.due("TURNS", x.count(4), 39);
        Check.due("mend as the 40th", x.mend(0, 1), 1);
        Check.due("day STATE ahead of FULL", x.day(), TownRepeated.STATE);
        Check.due("keep of 40", x.keep(0), 40);
        Check.due("undo(0)", x.undo(0), 40);
        Check.due("on to 40", x.on(0), 40);
    }

    private static void undo() {
        TownRepeated x = Check.chainOf("p00x0A01");
        long at0 = x.digest();
        x.mend(0, 1);
        long at1 = x.digest();
        x.day();
        long at2 = x.digest();
        x.err(10, 3);
        long at3 = x.digest();
        x.mend(1, 1);
        long at4 = x.digest();
        x.mend(0, 0);
        x.mend(1, 0);
        Check.due("undo(7)", x.undo(7), TownRepeated.BAD);
        Check.due("undo(-1)", x.undo(-1), TownRepeated.BAD);
        Check.due("undo(6)", x.undo(6), 0);
        Check.due("undo(4)", x.undo(4), 2);
        Check.due("as at 4", x.digest(), at4);
        Check.due("undo(3)", x.undo(3), 1);
        Check.due("as at 3", x.digest(), at3);
        Check.due("undo(2)", x.undo(2), 1);
        Check.due("as at 2", x.digest(), at2);
        Check.due("ERRORS that came go", x.error(1, 0), TownRepeated.BAD);
        Check.due("undo(1)", x.undo(1), 1);
        Check.due("as at 1", x.digest(), at1);
        Check.due("undo(0)", x.undo(0), 1);
        Check.due("as at 0", x.digest(), at0);
        Check.due("undo(0) of none", x.undo(0), 0);
        Check.due("undo(1) of none", x.undo(1), TownRepeated.BAD);
        Check.due("lots", x.lots(4, 99) >= 0 ? 1 : 0, 1);
        x.mend(2, 1);
        Check.due("undo in the midst of lots", x.undo(2), 3);
        Check.due("ERRORS", x.count(1), 3);
        Check.due("MENDED", x.count(2), 0);
        x.err(0, 1);
        Check.dueAsked("a new one is not MENDED", x, x.error(3, 4), 1, 0);
        x.undo(0);
        Check.due("as at 0 again", x.digest(), at0);
    }

    private static void keepAndOn() {
        TownRepeated x = Check.chainOf("p03z00x0A01");
        Check.due("keep(1)", x.keep(1), 0);
        x.stride(0, 7);
        Check.due("keep(0)", x.keep(0), 0);
        x.mend(0, 1);
        x.day();
        x.err(1010, 5);
        long then = x.digest();
        Check.due("keep(2)", x.keep(2), 3);
        Check.due("count(8)", x.count(8), 3);
        Check.due("on(1)", x.on(1), 0);
        Check.due("STRIDE as kept", x.does(0, 1, 0), 4);
        Check.due("ERRORS as kept", x.count(1), 1);
        Check.due("nothing MENDED", x.count(2), 0);
        Check.due("TODAY as kept", x.count(3), 0);
        Check.due("on(0)", x.on(0), 0);
        Check.due("the other STRIDE", x.does(0, 1, 0), 8);
        Check.due("on(2)", x.on(2), 3);
        Check.due("STRIDE, MENDED", x.does(0, 1, 0), 7);
        Check.due("the ERROR that came", x.does(1, 1, 0), 5);
        Check.due("TURNS are kept", x.undo(1), 2);
        Check.due("TODAY undone", x.count(3), 0);
        Check.due("on(2) again", x.on(2), 3);
        Check.due("as then, all three kept", x.count(8), 3);
        x.day();
        Check.due("keep(2) anew", x.keep(2), 4);
        x.undo(0);
        Check.due("on(2) anew", x.on(2), 4);
        Check.due("TODAY", x.count(3), 2);
        x.undo(0);
        x.day();
        x.day();
        x.day();
        x.day();
        Check.due("on(2) from other TURNS", x.on(2), 4);
        Check.due("the kept TURNS are undone: a DAY", x.undo(3), 1);
        Check.due("TODAY then", x.count(3), 1);
        Check.due("the kept TURNS are undone: an ERROR", x.undo(2), 1);
        Check.due("ERRORS then", x.count(1), 1);
        Check.due("the kept TURNS are undone: all", x.undo(0), 2);
        Check.due("MENDED then", x.count(2), 0);
        x.on(2);
        x.undo(3);
        x.keep(2);
        Check.due("digest as then", x.digest(), theSameWay(then));
    }

    /** The digest then was told ahead of keep(2): it is made anew in an object that went the same way. */
    private static long theSameWay(long then) {
        TownRepeated x = Check.chainOf("p03z00x0A01");
        x.keep(1);
        x.stride(0, 7);
        x.keep(0);
        x.mend(0, 1);
        x.day();
        x.err(1010, 5);
        Check.due("the same way, the same digest", x.digest(), then);
        x.keep(2);
        return x.digest();
    }

    private static void keepRefused() {
        TownRepeated x = new TownRepeated();
        Check.due("keep(3)", x.keep(3), TownRepeated.BAD);
        Check.due("keep(-1)", x.keep(-1), TownRepeated.BAD);
        Check.due("keep(0)", x.keep(0), TownRepeated.STATE);
        Check.due("on(3)", x.on(3), TownRepeated.BAD);
        Check.due("on(-1)", x.on(-1), TownRepeated.BAD);
        Check.dueFinding("on(0)", x, 0, x.on(0), NOTHING);
        TownRepeated y = Check.chainOf("p00");
        y.keep(1);
        Check.dueFinding("on(0) of another place", y, 0, y.on(0), NOTHING);
        Check.dueFinding("on(2) of another place", y, 1, y.on(2), NOTHING);
        Check.due("count(8)", y.count(8), 1);
    }
}
