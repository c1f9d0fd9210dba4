/** Promises 32 to 34: fits, sure, lies. */
final class FitsEdges {
    private FitsEdges() {
    }

    static void run() {
        fits();
        fitsOnTheWay();
        fitsMended();
        sure();
        lies();
        String order = "BAD; STATE; NOTHING; SIZE; UNLIKE";
        refused(Edge.of(32, "BAD; STATE: no PERSONS; NOTHING; SIZE: not by fours; UNLIKE. (In this order.)"), "fits");
        refused(Edge.of(33, order.concat("; NOUGHT: none fits. (In this order.)")), "sure");
        refused(Edge.of(34, order.concat(". (In this order.)")), "lies");
        nought();
    }

    private static Edge fit(Edge edge, int r, int first, int many) {
        return edge.asks(1, first, "fits", r).tells(many, 1, "fits", r);
    }

    private static void fits() {
        Edge of = Edge.of(32, "How many sets of ERRORS that are not MENDED now there are so that all in a ROW is as told, "
            + "if just these are not MENDED (what is MENDED now stays so), told by upper() (lower() is 1); "
            + "the first by asked() (bits; NONE): 1.");
        Edge none = of.anew().chain("p30");
        fit(none.due(0, "row", 0, 0), 0, 0, 1);
        fit(none.row(0, 0, 0, 0, 3), 0, 0, 1);
        fit(none.row(0, 0, 0, 0, 4), 0, -9, 0);
        fit(none.row(0, 4, 3, 0, 3), 0, -9, 0);
        fit(none.row(0, 4, 4, 0, 3), 0, 0, 1);
        Edge three = of.anew().chain("p00p00x0A01x0A02x0A03x1B15");
        fit(three.due(0, "row", 5, 0), 5, 0, 16);
        fit(three.row(5, 0, 0, 0, 0), 5, 0, 2);
        fit(three.row(5, 0, 0, 0, 3), 5, 1 + 2, 4);
        fit(three.row(5, 0, 0, 0, 3, 1, 1, 1, 5), 5, 1 + 2 + 8, 2);
        fit(three.row(5, 0, 0, 0, 3, 1, 1, 1, 5, 0, 0, 0, 2), 5, -9, 0);
        fit(three.row(5, 0, 0, 0, 6, 4, 4, 1, 5), 5, 15, 1);
        fit(three.row(5, 0, 0, 0, 7), 5, -9, 0);
        // The first is the one of the least number: 3 and 4 (bits 3) ahead of 7 (bits 4).
        fit(of.anew().chain("p00x1B03x1B04x1B07").row(0, 1, 1, 0, 7), 0, 3, 2);
        Edge twelve = of.anew().chain("p00").errors(12, 0, 1);
        fit(twelve.due(0, "row", 0, 0), 0, 0, 4096);
        fit(twelve.row(0, 0, 0, 0, 2), 0, 3, 67);
        fit(twelve.row(0, 0, 0, 0, 1), 0, 1, 24);
        fit(twelve.due(40, "row", 0, 40), 0, 0, 67);
        fit(twelve.due(1, "lay", 0, 39, 1), 0, -9, 0);
        // What odds() told is told anew by fits().
        fit(of.anew().chain("p00x0A01").row(0, 0, 0, 0, 1).tells(1, 2, "odds", 0, 0, 0, 1, 6), 0, 1, 1);
    }

    /** ERROR 0 is on the way of TOWN 2 on DAY 5, 1 from DAY 3 in TOWN 0 on, 2 on that of TOWN 3 on DAY 10. */
    private static void fitsOnTheWay() {
        Edge of = Edge.of(32, "so that all in a ROW is as told, if just these are not MENDED").chain("p00p00x2F03x0D04x3K02");
        fit(of.row(0, 2, 5, 0, 7), 0, 1 + 2, 2).asks(1 + 2, 0, "sure", 0);
        fit(of.row(0, 2, 5, 0, 3), 0, 1, 2).asks(1, 2, "sure", 0);
        fit(of.row(0, 2, 6, 0, 4), 0, 2, 4);
        fit(of.row(0, 2, 4, 0, 0), 0, 0, 8);
        fit(of.row(0, 2, 4, 0, 3), 0, -9, 0);
        fit(of.row(0, 0, 2, 0, 0), 0, 0, 8);
        fit(of.row(0, 0, 3, 0, 0), 0, 0, 4);
        fit(of.row(0, 0, 3, 0, 4), 0, 2, 4);
        fit(of.row(0, 4, 11, 0, 6), 0, 2 + 4, 2).asks(2 + 4, 0, "sure", 0);
        fit(of.row(0, 4, 11, 0, 6, 4, 7, 0, 4), 0, 2 + 4, 1).asks(2 + 4, 1, "sure", 0);
        fit(of.row(0, 4, 11, 1, 0), 0, 0, 8);
        fit(of.row(0, 4, 11, 1, 6), 0, -9, 0);
    }

    private static void fitsMended() {
        Edge of = Edge.of(32, "(what is MENDED now stays so)").chain("p00x0A01x0A02x0A03");
        fit(of.row(0, 0, 0, 0, 3), 0, 3, 2);
        fit(of.due(1, "mend", 2, 1), 0, 3, 1);
        fit(of.due(2, "mend", 0, 1), 0, -9, 0);
        fit(of.due(1, "mend", 2, 0), 0, 4, 1);
        fit(of.due(0, "row", 0, 0), 0, 0, 4);
        of.due(2, "mend", 1, 1).due(3, "mend", 2, 1);
        fit(of, 0, 0, 1);
        // An ERROR ahead of its TOWN's number is in a set or not: both fit.
        fit(Edge.of(32, "How many sets of ERRORS that are not MENDED now there are").chain("p00x4D05x0A01").row(0, 0, 0, 0, 1), 0, 2, 2);
    }

    private static void sure() {
        Edge of = Edge.of(33, "ERRORS (bits) that are in each such set; those (not MENDED now) that are in none by asked().");
        of.anew().chain("p00p00x0A01x0A02x0A03x1B15")
            .due(0, "row", 0, 0).asks(0, 0, "sure", 0)
            .row(0, 0, 0, 0, 3).asks(0, 0, "sure", 0)
            .row(0, 0, 0, 0, 3, 1, 1, 1, 5).asks(8, 0, "sure", 0)
            .row(0, 0, 0, 0, 1, 1, 1, 1, 0).asks(1, 2 + 4 + 8, "sure", 0)
            .row(0, 0, 0, 0, 6, 1, 1, 1, 5).asks(15, 0, "sure", 0)
            .row(0, 0, 0, 0, 0, 1, 1, 1, 0).asks(0, 15, "sure", 0)
            .row(0, 0, 0, 0, 3).due(1, "mend", 2, 1).asks(3, 0, "sure", 0)
            .row(0, 0, 0, 0, 0).asks(0, 3, "sure", 0).due(2, "mend", 0, 1).asks(0, 2, "sure", 0)
            .due(3, "mend", 1, 1).due(4, "mend", 3, 1).asks(0, 0, "sure", 0);
        of.anew().chain("p00").errors(12, 0, 1).row(0, 0, 0, 0, 2).asks(0, 0, "sure", 0)
            .due(1, "mend", 5, 1).due(2, "mend", 6, 1).due(3, "mend", 7, 1).row(0, 0, 0, 0, 9).asks(4095 - 32 - 64 - 128, 0, "sure", 0)
            .row(0, 0, 0, 0, 0).asks(0, 4095 - 32 - 64 - 128, "sure", 0);
        of.anew().asks(0, 0, "agree", 0, 1, 1).chain("p00").due(0, "row", 0, 0).asks(0, 0, "sure", 0).due(0, "upper").due(1, "lower");
    }

    private static void nought() {
        Edge.of(33, "NOUGHT: none fits.")
            .chain("p00x0A01").row(0, 0, 0, 0, 2).finds(Edge.NOUGHT, "sure", 0).tells(0, 1, "fits", 0).finds(Edge.NOUGHT, "sure", 0)
            .row(0, 0, 0, 0, 1).asks(1, 0, "sure", 0).row(0, 0, 0, 0, 0).asks(0, 1, "sure", 0)
            .row(0, 0, 0, 0, 0, 0, 1, 0, 1).finds(Edge.NOUGHT, "sure", 0)
            .row(0, 4, 3, 0, 0).finds(Edge.NOUGHT, "sure", 0).row(0, 4, 4, 0, 0).asks(0, 1, "sure", 0)
            .due(1, "mend", 0, 1).row(0, 0, 0, 0, 1).finds(Edge.NOUGHT, "sure", 0);
    }

    private static void lies() {
        Edge.of(34, "How many fours of a ROW are not as it is now; the first by asked() (NONE).")
            .chain("p00p01x0A01").due(0, "row", 5, 0).asks(0, -9, "lies", 5)
            .row(5, 0, 0, 0, 1).asks(0, -9, "lies", 5).row(5, 0, 0, 0, 0).asks(1, 0, "lies", 5)
            .row(5, 0, 0, 0, 1, 0, 3, 1, 4).asks(1, 1, "lies", 5).row(5, 0, 0, 0, 1, 0, 3, 1, 3).asks(0, -9, "lies", 5)
            .row(5, 0, 0, 0, 1, 0, 3, 1, 3, 4, 3, 1, 0, 0, 0, 0, 0).asks(2, 2, "lies", 5)
            .row(5, 0, 0, 0, 2, 0, 3, 1, 3, 4, 4, 1, 9).asks(2, 0, "lies", 5)
            .row(5, 0, 0, 0, 1).due(1, "mend", 0, 1).asks(1, 0, "lies", 5).due(0, "mend", 0, 0).asks(0, -9, "lies", 5)
            .due(40, "row", 5, 40).asks(10, 0, "lies", 5).due(1, "mend", 0, 1).asks(0, -9, "lies", 5)
            .due(1, "lay", 5, 39, 9).asks(1, 9, "lies", 5);
    }

    /** Each reason alone and ahead of all behind it. */
    private static void refused(Edge of, String name) {
        of.anew().bad(name, -1).bad(name, 6).state(name, 0).state(name, 5).due(3, "row", 0, 3).state(name, 0)
            .due(4, "row", 0, 4).state(name, 0).due(1, "lay", 0, 0, 77).state(name, 0).bad(name, 6);
        Edge x = of.anew().chain("p00p00x0A01").asks(1, 1, "error", 0, 3)
            .bad(name, -1).bad(name, 6).bad(name, Edge.LEAST).bad(name, Edge.GREATEST)
            .finds(Edge.NOTHING, name, 0).finds(Edge.NOTHING, name, 5);
        for (int n : new int[] {1, 2, 3, 5, 6, 7, 9, 37, 38, 39}) {
            x.due(n, "row", 0, n).finds(Edge.SIZE, name, 0).due(1, "lay", 0, 0, 77).finds(Edge.SIZE, name, 0);
        }
        x.due(1, "tear", 0).finds(Edge.NOTHING, name, 0);
        int[] most = {4, 19, 1, 9};
        for (int i = 0; i < 4; i++) {
            Edge y = of.anew().chain("p00p00x0A01").row(0, 0, 0, 0, 1, 4, 19, 1, 0);
            for (int v : new int[] {-1, most[i] + 1, -9, Edge.LEAST, Edge.GREATEST}) {
                y.due(1, "lay", 0, i, v).finds(Edge.UNLIKE, name, 0).due(1, "lay", 0, i, i == 3 ? 1 : 0);
                y.due(1, "lay", 0, 4 + i, v).finds(Edge.UNLIKE, name, 0).due(1, "lay", 0, 4 + i, new int[] {4, 19, 1, 0}[i]);
            }
            y.due(new int[] {1, 1, 0}[java.util.List.of("fits", "sure", "lies").indexOf(name)], name, 0);
        }
        // UNLIKE comes ahead of NOUGHT, and all of the ROW is looked at, not only up to what fits not.
        of.anew().chain("p00").row(0, 0, 0, 0, 1, 0, 0, 0, 10).finds(Edge.UNLIKE, name, 0);
        of.anew().chain("p00").due(40, "row", 5, 40).due(1, "lay", 5, 39, 10).finds(Edge.UNLIKE, name, 5);
    }
}
