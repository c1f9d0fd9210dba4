/** Promises 1 to 7: a new object, row, lay, at, tear, copy, mean. */
final class RowsEdges {
    private RowsEdges() {
    }

    static void run() {
        newObject();
        row();
        lay();
        at();
        tear();
        copy();
        mean();
        meanRefused();
    }

    private static void newObject() {
        Edge none = Edge.of(1, "No ROWS, TEXTS, PERSONS, ERRORS.").counts(0, 0, 0, 0, 0, 0, 0, 0, 0);
        for (int r = 0; r <= 5; r++) {
            none.finds(Edge.NOTHING, "at", r, 0);
        }
        for (int t = 0; t <= 3; t++) {
            none.finds(Edge.NOTHING, "put", t, 0, 0);
        }
        for (int k = 0; k <= 2; k++) {
            none.finds(Edge.NOTHING, "on", k);
        }
        none.bad("person", 0, 0).bad("error", 0, 0);
    }

    private static void row() {
        Edge.of(2, "A ROW is there with n ints 0: n.")
            .due(0, "row", 0, 0).isRow(0)
            .due(1, "row", 5, 1).isRow(5, 0)
            .due(40, "row", 1, 40).isRow(1, new int[40])
            .finds(Edge.NOTHING, "at", 2, 0);
        Edge.of(2, "A ROW is there with n ints 0: n.")
            .row(0, 7, 8, 9)
            .due(3, "row", 0, 3).isRow(0, 0, 0, 0)
            .row(0, 7, 8, 9).due(1, "row", 0, 1).isRow(0, 0)
            .due(3, "row", 0, 3).isRow(0, 0, 0, 0)
            .due(0, "row", 0, 0).isRow(0)
            .due(1, "count", 6);
        Edge.of(2, "BAD: also n above 40;")
            .due(39, "row", 0, 39).due(40, "row", 0, 40)
            .bad("row", 0, 41).bad("row", 0, 42).bad("row", 0, Edge.GREATEST)
            .bad("row", -1, 3).due(3, "row", 0, 3).due(3, "row", 5, 3).bad("row", 6, 3)
            .bad("row", Edge.LEAST, 3).bad("row", Edge.GREATEST, 3);
        Edge.of(2, "SIZE: below 0.")
            .due(2, "row", 0, 2).due(0, "row", 1, 0)
            .finds(Edge.SIZE, "row", 0, -1).finds(Edge.SIZE, "row", 5, -2).finds(Edge.SIZE, "row", 0, Edge.LEAST)
            .bad("row", 6, -1).bad("row", -1, -1)
            .isRow(0, 0, 0).due(2, "count", 6);
    }

    private static void lay() {
        Edge.of(3, "Place i of a ROW is v: what it was, told by asked(): 1.")
            .due(3, "row", 4, 3)
            .asks(1, 0, "lay", 4, 0, Edge.GREATEST).asks(1, Edge.GREATEST, "lay", 4, 0, Edge.LEAST)
            .asks(1, Edge.LEAST, "lay", 4, 0, -9).asks(1, 0, "lay", 4, 2, 5).asks(1, -9, "lay", 4, 0, -9)
            .isRow(4, -9, 0, 5);
        Edge.of(3, "BAD; NOTHING; BEYOND.")
            .row(0, 1, 2).due(40, "row", 5, 40).due(0, "row", 1, 0)
            .bad("lay", -1, 0, 7).bad("lay", 6, 0, 7).bad("lay", 6, 99, 7).bad("lay", Edge.LEAST, -1, 7)
            .finds(Edge.NOTHING, "lay", 2, 0, 7).finds(Edge.NOTHING, "lay", 4, -1, 7).finds(Edge.NOTHING, "lay", 3, 40, 7)
            .finds(Edge.BEYOND, "lay", 0, -1, 7).finds(Edge.BEYOND, "lay", 0, 2, 7).finds(Edge.BEYOND, "lay", 1, 0, 7)
            .finds(Edge.BEYOND, "lay", 5, 40, 7).finds(Edge.BEYOND, "lay", 0, Edge.GREATEST, 7)
            .finds(Edge.BEYOND, "lay", 0, Edge.LEAST, 7)
            .due(1, "lay", 0, 0, 3).due(1, "lay", 0, 1, 4).due(1, "lay", 5, 39, 7).isRow(0, 3, 4);
    }

    private static void at() {
        Edge.of(4, "Place i of a ROW, told by asked(): 1.")
            .row(2, Edge.LEAST, 0, Edge.GREATEST)
            .asks(1, Edge.LEAST, "at", 2, 0).asks(1, 0, "at", 2, 1).asks(1, Edge.GREATEST, "at", 2, 2)
            .asks(1, Edge.LEAST, "at", 2, 0);
        Edge.of(4, "BAD; NOTHING; BEYOND.")
            .row(0, 1, 2).due(40, "row", 5, 40).due(0, "row", 1, 0).asks(1, 2, "at", 0, 1)
            .bad("at", -1, 0).bad("at", 6, 0).bad("at", 6, 99).bad("at", Edge.GREATEST, -1)
            .finds(Edge.NOTHING, "at", 2, 0).finds(Edge.NOTHING, "at", 4, -1).finds(Edge.NOTHING, "at", 3, 40)
            .finds(Edge.BEYOND, "at", 0, -1).finds(Edge.BEYOND, "at", 0, 2).finds(Edge.BEYOND, "at", 1, 0)
            .finds(Edge.BEYOND, "at", 5, 40).finds(Edge.BEYOND, "at", 0, Edge.GREATEST)
            .finds(Edge.BEYOND, "at", 0, Edge.LEAST)
            .asks(1, 1, "at", 0, 0).asks(1, 0, "at", 5, 39);
    }

    private static void tear() {
        Edge.of(5, "A ROW is missing: 1.")
            .row(0, 1).row(5, 2).due(0, "row", 2, 0)
            .due(1, "tear", 0).finds(Edge.NOTHING, "at", 0, 0)
            .due(1, "tear", 2).finds(Edge.NOTHING, "mean", 2)
            .due(1, "count", 6).isRow(5, 2).due(1, "tear", 5).due(0, "count", 6)
            .due(1, "row", 0, 1).isRow(0, 0);
        Edge.of(5, "BAD; NOTHING.")
            .row(0, 1).row(5, 2)
            .bad("tear", -1).bad("tear", 6).bad("tear", Edge.LEAST).bad("tear", Edge.GREATEST)
            .finds(Edge.NOTHING, "tear", 1).due(1, "tear", 0).finds(Edge.NOTHING, "tear", 0).due(1, "tear", 5);
    }

    private static void copy() {
        Edge.of(6, "n places of a ROW, from one on, come to those of another one (perhaps itself) from one on, as if taken ahead: 1.")
            .row(0, 1, 2, 3, 4, 5).row(5, 9, 9, 9)
            .due(1, "copy", 0, 2, 5, 1, 2).isRow(5, 9, 3, 4).isRow(0, 1, 2, 3, 4, 5)
            .due(1, "copy", 0, 0, 0, 1, 4).isRow(0, 1, 1, 2, 3, 4)
            .due(1, "copy", 0, 2, 0, 1, 3).isRow(0, 1, 2, 3, 4, 4)
            .due(1, "copy", 0, 1, 0, 1, 4).isRow(0, 1, 2, 3, 4, 4)
            .due(1, "copy", 5, 0, 0, 2, 3).isRow(0, 1, 2, 9, 3, 4)
            .due(1, "copy", 0, 4, 5, 2, 1).isRow(5, 9, 3, 4)
            .due(1, "copy", 0, 1, 5, 0, 0).isRow(5, 9, 3, 4).isRow(0, 1, 2, 9, 3, 4);
        Edge.of(6, "BAD;")
            .row(0, 1, 2).row(5, 3, 4)
            .bad("copy", -1, 0, 0, 0, 1).bad("copy", 6, 0, 0, 0, 1).bad("copy", 0, 0, -1, 0, 1).bad("copy", 0, 0, 6, 0, 1)
            .bad("copy", 6, 0, 0, 0, -1).bad("copy", 0, 0, -1, 0, -1).bad("copy", 6, 0, 1, 0, 1).bad("copy", 1, 0, 6, 0, 1)
            .bad("copy", -1, 5, 0, 0, 1).bad("copy", 0, 0, 6, 5, 1)
            .due(1, "copy", 0, 0, 5, 0, 1).due(1, "copy", 5, 1, 0, 1, 1);
        Edge.of(6, "SIZE: n below 0;")
            .row(0, 1, 2).row(5, 3, 4)
            .finds(Edge.SIZE, "copy", 0, 0, 5, 0, -1).finds(Edge.SIZE, "copy", 0, 0, 5, 0, Edge.LEAST)
            .finds(Edge.SIZE, "copy", 1, 0, 5, 0, -1).finds(Edge.SIZE, "copy", 0, 0, 1, 0, -1)
            .finds(Edge.SIZE, "copy", 0, 9, 5, 0, -1).finds(Edge.SIZE, "copy", 0, 0, 5, -1, -1)
            .due(1, "copy", 0, 0, 5, 0, 0).isRow(5, 3, 4);
        Edge.of(6, "NOTHING: either;")
            .row(0, 1, 2).row(5, 3, 4)
            .finds(Edge.NOTHING, "copy", 1, 0, 5, 0, 1).finds(Edge.NOTHING, "copy", 0, 0, 1, 0, 1)
            .finds(Edge.NOTHING, "copy", 1, 0, 1, 0, 0).finds(Edge.NOTHING, "copy", 1, -1, 5, 0, 1)
            .finds(Edge.NOTHING, "copy", 0, 9, 1, 0, 1).finds(Edge.NOTHING, "copy", 1, 0, 5, 0, 41)
            .due(1, "copy", 0, 0, 5, 0, 1).isRow(5, 1, 4);
        copyBeyond();
    }

    private static void copyBeyond() {
        Edge.of(6, "BEYOND: not so many there.")
            .row(0, 1, 2, 3).row(5, 7).due(0, "row", 4, 0)
            .finds(Edge.BEYOND, "copy", 0, 0, 0, 0, 4).due(1, "copy", 0, 0, 0, 0, 3)
            .finds(Edge.BEYOND, "copy", 0, 1, 0, 0, 3).due(1, "copy", 0, 1, 0, 1, 2)
            .finds(Edge.BEYOND, "copy", 0, 0, 0, 1, 3).finds(Edge.BEYOND, "copy", 0, 0, 5, 0, 2)
            .finds(Edge.BEYOND, "copy", 0, 0, 5, 1, 1).finds(Edge.BEYOND, "copy", 0, 3, 5, 0, 1)
            .finds(Edge.BEYOND, "copy", 0, -1, 5, 0, 1).finds(Edge.BEYOND, "copy", 0, 0, 5, -1, 1)
            .finds(Edge.BEYOND, "copy", 0, -1, 5, 0, 0).finds(Edge.BEYOND, "copy", 0, 0, 5, -1, 0)
            .finds(Edge.BEYOND, "copy", 0, 4, 5, 0, 0).finds(Edge.BEYOND, "copy", 0, 0, 5, 2, 0)
            .due(1, "copy", 0, 3, 5, 1, 0).due(1, "copy", 4, 0, 4, 0, 0).finds(Edge.BEYOND, "copy", 4, 0, 4, 0, 1)
            .finds(Edge.BEYOND, "copy", 0, 1, 0, 1, Edge.GREATEST).finds(Edge.BEYOND, "copy", 0, Edge.GREATEST, 5, 0, 1)
            .finds(Edge.BEYOND, "copy", 0, 0, 5, Edge.GREATEST, 1)
            .finds(Edge.BEYOND, "copy", 0, Edge.GREATEST, 0, Edge.GREATEST, Edge.GREATEST)
            .finds(Edge.BEYOND, "copy", 0, Edge.LEAST, 5, 0, 1)
            .isRow(0, 1, 2, 3).isRow(5, 7);
    }

    private static void mean() {
        Edge.of(7, "The mean of a ROW's ints, cut, told by asked(): 1.")
            .row(0, 1, 2).asks(1, 1, "mean", 0)
            .row(0, 1, 3).asks(1, 2, "mean", 0)
            .row(0, -1, -2).asks(1, -1, "mean", 0)
            .row(0, -1, 0, 0).asks(1, 0, "mean", 0)
            .row(0, 1, 1, 0).asks(1, 0, "mean", 0)
            .row(0, -7).asks(1, -7, "mean", 0)
            .row(0, Edge.GREATEST, Edge.GREATEST).asks(1, Edge.GREATEST, "mean", 0)
            .row(0, Edge.LEAST, Edge.LEAST, Edge.LEAST).asks(1, Edge.LEAST, "mean", 0)
            .row(0, Edge.LEAST, Edge.GREATEST).asks(1, 0, "mean", 0);
        int[] most = new int[40];
        java.util.Arrays.fill(most, Edge.GREATEST);
        most[39] = Edge.GREATEST - 39;
        Edge.of(7, "The mean of a ROW's ints, cut, told by asked(): 1.")
            .row(5, most).asks(1, Edge.GREATEST - 1, "mean", 5);
    }

    private static void meanRefused() {
        Edge.of(7, "BAD; NOTHING; NOUGHT.")
            .row(0, 8).row(5, 6).due(0, "row", 1, 0).asks(1, 6, "mean", 5)
            .bad("mean", -1).bad("mean", 6).bad("mean", Edge.LEAST).bad("mean", Edge.GREATEST)
            .finds(Edge.NOTHING, "mean", 2).finds(Edge.NOUGHT, "mean", 1)
            .due(1, "tear", 1).finds(Edge.NOTHING, "mean", 1)
            .asks(1, 8, "mean", 0);
    }
}
