/** Promises 1 to 7: a new object, row, lay, at, tear, copy, mean. */
public final class RowsTest {
    private static final int NOTHING = 1, BEYOND = 2, NOUGHT = 4, SIZE = 5;

    public static void main(String[] args) {
        newObject();
        row();
        layAndAt();
        tear();
        copy();
        copyRefused();
        mean();
        Check.end();
    }

    private static void newObject() {
        TownRepeated x = new TownRepeated();
        for (int what = 0; what < 9; what++) {
            Check.due("new: count(" + what + ")", x.count(what), 0);
        }
        for (int r = 0; r < 6; r++) {
            Check.dueFinding("new: at(" + r + ", 0)", x, r, x.at(r, 0), NOTHING);
        }
        for (int t = 0; t < 4; t++) {
            Check.dueFinding("new: fault(" + t + ")", x, 6 + t, x.fault(t), NOTHING);
        }
        Check.due("new: does(0, 0, 0)", x.does(0, 0, 0), TownRepeated.BAD);
        Check.due("new: error(0, 0)", x.error(0, 0), TownRepeated.BAD);
    }

    private static void row() {
        TownRepeated x = new TownRepeated();
        Check.due("row(0, 40)", x.row(0, 40), 40);
        Check.due("row(5, 0)", x.row(5, 0), 0);
        Check.due("count(6)", x.count(6), 2);
        Check.dueAsked("at(0, 39)", x, x.at(0, 39), 1, 0);
        x.lay(0, 0, 7);
        Check.due("row(0, 3)", x.row(0, 3), 3);
        Check.dueAsked("at(0, 0) anew", x, x.at(0, 0), 1, 0);
        Check.dueFinding("at(0, 3)", x, 0, x.at(0, 3), BEYOND);
        Check.due("row(-1, 0)", x.row(-1, 0), TownRepeated.BAD);
        Check.due("row(6, 0)", x.row(6, 0), TownRepeated.BAD);
        Check.due("row(6, -1)", x.row(6, -1), TownRepeated.BAD);
        Check.due("row(0, 41)", x.row(0, 41), TownRepeated.BAD);
        Check.due("row(0, greatest)", x.row(0, Integer.MAX_VALUE), TownRepeated.BAD);
        Check.dueFinding("row(0, -1)", x, 0, x.row(0, -1), SIZE);
        Check.dueFinding("row(0, least)", x, 1, x.row(0, Integer.MIN_VALUE), SIZE);
        Check.due("refused rows change nothing", x.at(0, 2), 1);
    }

    private static void layAndAt() {
        TownRepeated x = new TownRepeated();
        x.row(2, 3);
        Check.dueAsked("lay(2, 2, -5)", x, x.lay(2, 2, -5), 1, 0);
        Check.dueAsked("lay(2, 2, least)", x, x.lay(2, 2, Integer.MIN_VALUE), 1, -5);
        Check.dueAsked("at(2, 2)", x, x.at(2, 2), 1, Integer.MIN_VALUE);
        Check.dueAsked("at(2, 1)", x, x.at(2, 1), 1, 0);
        x.at(2, 2);
        Check.due("lay(6, 0, 1)", x.lay(6, 0, 1), TownRepeated.BAD);
        Check.due("lay(-1, 0, 1)", x.lay(-1, 0, 1), TownRepeated.BAD);
        Check.due("at(6, 0)", x.at(6, 0), TownRepeated.BAD);
        Check.due("at(-1, 0)", x.at(-1, 0), TownRepeated.BAD);
        Check.due("BAD is no finding", x.finding(), 0);
        Check.dueFinding("lay(1, 9, 1)", x, 0, x.lay(1, 9, 1), NOTHING);
        Check.dueFinding("at(1, 9)", x, 1, x.at(1, 9), NOTHING);
        Check.dueFinding("lay(2, 3, 1)", x, 0, x.lay(2, 3, 1), BEYOND);
        Check.dueFinding("lay(2, -1, 1)", x, 1, x.lay(2, -1, 1), BEYOND);
        Check.dueFinding("at(2, 3)", x, 2, x.at(2, 3), BEYOND);
        Check.dueFinding("at(2, -1)", x, 3, x.at(2, -1), BEYOND);
        Check.due("asked() is as ahead of what was refused", x.asked(), Integer.MIN_VALUE);
    }

    private static void tear() {
        TownRepeated x = new TownRepeated();
        x.row(0, 1);
        x.row(5, 1);
        Check.due("tear(0)", x.tear(0), 1);
        Check.due("count(6)", x.count(6), 1);
        Check.dueFinding("tear(0) again", x, 0, x.tear(0), NOTHING);
        Check.dueFinding("at(0, 0)", x, 1, x.at(0, 0), NOTHING);
        Check.due("at(5, 0)", x.at(5, 0), 1);
        Check.due("tear(6)", x.tear(6), TownRepeated.BAD);
        Check.due("tear(-1)", x.tear(-1), TownRepeated.BAD);
    }

    private static void dueRow(TownRepeated x, int r, int... ints) {
        for (int i = 0; i < ints.length; i++) {
            Check.dueAsked("at(" + r + ", " + i + ")", x, x.at(r, i), 1, ints[i]);
        }
        Check.due("no more in " + r, x.at(r, ints.length), TownRepeated.FINDING);
    }

    private static void copy() {
        TownRepeated x = new TownRepeated();
        Check.rowOf(x, 0, 1, 2, 3, 4, 5);
        Check.rowOf(x, 1, 9, 9, 9);
        Check.due("copy to another", x.copy(0, 2, 1, 1, 2), 1);
        dueRow(x, 1, 9, 3, 4);
        Check.due("copy on", x.copy(0, 0, 0, 1, 4), 1);
        dueRow(x, 0, 1, 1, 2, 3, 4);
        Check.due("copy back", x.copy(0, 2, 0, 1, 3), 1);
        dueRow(x, 0, 1, 2, 3, 4, 4);
        Check.due("copy none at the end", x.copy(0, 5, 1, 3, 0), 1);
        dueRow(x, 0, 1, 2, 3, 4, 4);
        dueRow(x, 1, 9, 3, 4);
    }

    private static void copyRefused() {
        TownRepeated x = new TownRepeated();
        Check.rowOf(x, 0, 1, 2, 3);
        Check.rowOf(x, 1, 7);
        int greatest = Integer.MAX_VALUE;
        Check.due("copy(6, ..)", x.copy(6, 0, 0, 0, -1), TownRepeated.BAD);
        Check.due("copy(.., 6, ..)", x.copy(0, 0, 6, 0, -1), TownRepeated.BAD);
        Check.due("copy(-1, ..)", x.copy(-1, 0, 0, 0, 0), TownRepeated.BAD);
        Check.due("copy(.., -1, ..)", x.copy(0, 0, -1, 0, 0), TownRepeated.BAD);
        Check.dueFinding("copy of fewer than none", x, 0, x.copy(2, 0, 3, 0, -1), SIZE);
        Check.dueFinding("copy of a missing one", x, 0, x.copy(2, 9, 0, 0, 0), NOTHING);
        Check.dueFinding("copy to a missing one", x, 1, x.copy(0, 9, 2, 0, 0), NOTHING);
        Check.dueFinding("copy of too many", x, 0, x.copy(0, 1, 0, 0, 3), BEYOND);
        Check.dueFinding("copy to too few", x, 1, x.copy(0, 0, 1, 0, 2), BEYOND);
        Check.dueFinding("copy from below", x, 2, x.copy(0, -1, 0, 0, 1), BEYOND);
        Check.dueFinding("copy to below", x, 3, x.copy(0, 0, 0, -1, 1), BEYOND);
        Check.dueFinding("copy none from behind", x, 4, x.copy(0, 4, 0, 0, 0), BEYOND);
        Check.dueFinding("copy none to behind", x, 5, x.copy(0, 0, 1, 2, 0), BEYOND);
        Check.dueFinding("copy far too many", x, 6, x.copy(0, 1, 0, 1, greatest), BEYOND);
        Check.dueFinding("copy from far", x, 7, x.copy(0, greatest, 0, 0, 2), BEYOND);
        dueRow(x, 0, 1, 2, 3);
        dueRow(x, 1, 7);
    }

    private static void mean() {
        TownRepeated x = new TownRepeated();
        Check.rowOf(x, 0, 1, 2, 2);
        Check.dueAsked("mean of 5 by 3", x, x.mean(0), 1, 1);
        Check.rowOf(x, 0, -1, -2, -2);
        Check.dueAsked("mean of -5 by 3", x, x.mean(0), 1, -1);
        Check.rowOf(x, 0, Integer.MAX_VALUE, Integer.MAX_VALUE, Integer.MAX_VALUE);
        Check.dueAsked("mean of the greatest", x, x.mean(0), 1, Integer.MAX_VALUE);
        Check.rowOf(x, 0, Integer.MIN_VALUE, Integer.MIN_VALUE);
        Check.dueAsked("mean of the least", x, x.mean(0), 1, Integer.MIN_VALUE);
        Check.rowOf(x, 0, Integer.MIN_VALUE);
        Check.dueAsked("mean of one", x, x.mean(0), 1, Integer.MIN_VALUE);
        x.row(1, 0);
        Check.due("mean(6)", x.mean(6), TownRepeated.BAD);
        Check.due("mean(-1)", x.mean(-1), TownRepeated.BAD);
        Check.dueFinding("mean of a missing one", x, 0, x.mean(2), NOTHING);
        Check.dueFinding("mean of none", x, 0, x.mean(1), NOUGHT);
        Check.due("asked() stays", x.asked(), Integer.MIN_VALUE);
    }
}
