/** Promises 16 to 21: mend, err, day, undo, keep, on. */
final class TurnsEdges {
    private TurnsEdges() {
    }

    static void run() {
        mend();
        mendRefused();
        err();
        errRefused();
        day();
        undo();
        keep();
        on();
    }

    private static void mend() {
        Edge mends = Edge.of(16, "An ERROR is MENDED (1), or is one again (0): how many are MENDED then.")
            .chain("p00x0A01x0A02x0A04").due(7, "does", 0, 0, 0)
            .due(1, "mend", 1, 1).due(5, "does", 0, 0, 0).due(2, "mend", 2, 1).due(1, "does", 0, 0, 0)
            .due(3, "mend", 0, 1).due(0, "does", 0, 0, 0).due(2, "mend", 1, 0).due(2, "does", 0, 0, 0)
            .due(1, "mend", 0, 0).due(0, "mend", 2, 0).due(7, "does", 0, 0, 0).due(6, "count", 4).due(6, "undo", 0);
        mends.errors(9, 0, 1);
        for (int i = 0; i < 12; i++) {
            mends.due(i + 1, "mend", i, 1);
        }
        mends.due(12, "count", 2).due(0, "does", 0, 19, 0);
    }

    private static void mendRefused() {
        Edge.of(16, "BAD;").bad("mend", 0, 0).bad("mend", 0, 1).chain("p00x0A01x0A02").due(1, "mend", 0, 1)
            .bad("mend", -1, 1).bad("mend", 2, 1).bad("mend", 2, 0).bad("mend", Edge.LEAST, 1).bad("mend", Edge.GREATEST, 1)
            .bad("mend", 32, 1).bad("mend", 1, -1).bad("mend", 1, 2).bad("mend", 0, 2).bad("mend", 1, Edge.LEAST)
            .bad("mend", 1, Edge.GREATEST).due(2, "mend", 1, 1);
        Edge.of(16, "STATE: it is so;")
            .chain("p00x0A01x0A02").state("mend", 0, 0).due(1, "mend", 0, 1).state("mend", 0, 1).state("mend", 1, 0)
            .due(0, "mend", 0, 0).state("mend", 0, 0).due(2, "count", 4)
            .due(1, "undo", 1).state("mend", 0, 1).due(1, "undo", 0).state("mend", 0, 0);
        Edge.of(16, "FULL: 40 TURNS.")
            .chain("p00x0A01").mends(39, 0).due(39, "count", 4).due(0, "mend", 0, 0).due(40, "count", 4).full("mend", 0, 1)
            .due(1, "undo", 39).due(0, "mend", 0, 0).full("mend", 0, 1);
        Edge.of(16, "(FULL last.)")
            .chain("p00x0A01").mends(40, 0).state("mend", 0, 0).bad("mend", 1, 1).bad("mend", 0, 2).bad("mend", -1, 0)
            .full("mend", 0, 1);
    }

    private static void err() {
        Edge err = Edge.of(17, "An ERROR more, told by 1000 times the TOWN, 10 times the DAY (0 .. 19), and the PERSON, "
            + "by how much (1 .. 9): its number.");
        err.anew().chain("p00p00p00p00p00x0A01")
            .due(1, "err", 0, 1).isError(1, 0, 0, 0, 1, 0).due(2, "err", 4194, 9).isError(2, 4, 19, 4, 9, 0)
            .due(3, "err", 1000, 2).isError(3, 1, 0, 0, 2, 0).due(4, "err", 4, 3).isError(4, 0, 0, 4, 3, 0)
            .due(5, "err", 190, 4).isError(5, 0, 19, 0, 4, 0).due(6, "err", 10, 5).isError(6, 0, 1, 0, 5, 0)
            .due(7, "count", 1).due(6, "count", 4).due(2, "does", 0, 0, 0).due(7, "does", 0, 18, 0).due(1, "does", 0, 19, 0)
            .bad("err", 200, 1).bad("err", 204, 1).bad("err", 5, 1).bad("err", 9, 1).bad("err", 4195, 1).bad("err", 4200, 1)
            .bad("err", 5000, 1).bad("err", 999, 1).bad("err", -1, 1).bad("err", -1000, 1).bad("err", 5004, 1)
            .bad("err", 0, 0).bad("err", 0, 10);
        // An ERROR more on the DAY ahead of the TOWN's number is one, but of nothing.
        err.anew().chain("p00").due(0, "err", 4030, 5).due(0, "does", 4, 4, 0).due(1, "err", 4040, 5).due(5, "does", 4, 4, 0);
    }

    private static void errRefused() {
        Edge.of(17, "BAD;").bad("err", 0, 1).chain("p00p00").due(0, "err", 1, 1).bad("err", 2, 1)
            .bad("err", Edge.LEAST, 1).bad("err", Edge.GREATEST, 1).bad("err", 0, -1).bad("err", 0, Edge.LEAST)
            .bad("err", 0, Edge.GREATEST).errors(11, 0, 1).bad("err", 2, 1).bad("err", 0, 0).bad("err", 0, 10);
        Edge.of(17, "FULL: 12 ERRORS,")
            .chain("p00x0A01x0A01x0A01x0A01x0A01x0A01").errors(5, 0, 1).due(11, "err", 0, 1).full("err", 0, 1)
            .due(1, "mend", 11, 1).full("err", 0, 1).due(2, "undo", 5).due(11, "count", 1).due(11, "err", 0, 1).full("err", 0, 1);
        Edge.of(17, "or 40 TURNS.")
            .chain("p00x0A01").mends(39, 0).due(1, "err", 0, 1).full("err", 0, 1).due(2, "count", 1)
            .bad("err", 1, 1).due(1, "undo", 39).due(1, "err", 0, 1).due(40, "count", 4);
    }

    private static void day() {
        Edge.of(18, "A DAY goes by: TODAY.")
            .chain("p01").due(0, "count", 3).due(1, "day").due(1, "count", 3).asks(1, 1, "person", 0, 3).due(2, "day")
            .due(2, "count", 4);
        Edge.of(18, "STATE: no PERSONS, or TODAY is DAY 19;")
            .state("day").text(0, "p00").state("day").due(1, "chain", 0).days(18).due(19, "day").state("day")
            .due(19, "count", 4).due(1, "undo", 18).due(19, "day").state("day").due(19, "keep", 0).due(1, "chain", 0).due(1, "day");
        Edge.of(18, "FULL.")
            .chain("p00x0A01").mends(39, 0).due(1, "day").full("day").due(1, "undo", 39).due(1, "day").due(40, "count", 4);
        Edge.of(18, "(FULL last.)")
            .chain("p00x0A01").days(19).mends(20, 0).state("day").mends(1, 0).due(40, "count", 4).state("day")
            .full("mend", 0, 0);
    }

    private static void undo() {
        Edge.of(19, "TURNS from number n on are undone (ERRORS that came go): how many.")
            .chain("p00x0A01").due(0, "undo", 0)
            .days(1).errors(1, 10, 3).due(1, "mend", 1, 1).due(2, "mend", 0, 1).due(1, "mend", 1, 0).days(2)
            .counts(1, 2, 1, 2, 6).due(0, "undo", 6).counts(1, 2, 1, 2, 6)
            .due(1, "undo", 5).counts(1, 2, 1, 1, 5).due(1, "undo", 4).counts(1, 2, 2, 1, 4)
            .due(2, "undo", 2).counts(1, 2, 0, 1, 2).isError(1, 0, 1, 0, 3, 0)
            .due(1, "undo", 1).counts(1, 1, 0, 1, 1).bad("error", 1, 0)
            .due(1, "err", 0, 5).isError(1, 0, 0, 0, 5, 0).due(2, "undo", 0).counts(1, 1, 0, 0, 0).due(0, "undo", 0);
        Edge.of(19, "TURNS from number n on are undone (ERRORS that came go): how many.")
            .chain("p00").errors(1, 0, 1).due(1, "mend", 0, 1).due(2, "undo", 0).errors(1, 0, 2).isError(0, 0, 0, 0, 2, 0)
            .due(0, "count", 2).due(1, "undo", 0).due(0, "lots", 3, 1).due(2, "undo", 1).due(1, "count", 1);
        Edge.of(19, "BAD.").due(0, "undo", 0).bad("undo", 1).bad("undo", -1)
            .chain("p00x0A01").days(2).bad("undo", 3).bad("undo", -1).bad("undo", Edge.LEAST).bad("undo", Edge.GREATEST)
            .due(0, "undo", 2).mends(38, 0).bad("undo", 41).due(0, "undo", 40).due(40, "undo", 0).bad("undo", 1);
    }

    private static void keep() {
        Edge.of(20, "The CHAIN (TODAY, ERRORS, STRIDES, TURNS) is kept in a place (0 .. 2): how many TURNS.")
            .chain("p03x0A01").due(0, "keep", 0).due(3, "stride", 0, 7).days(2).due(2, "keep", 1)
            .errors(1, 0, 5).due(1, "mend", 0, 1).due(4, "keep", 2).due(3, "count", 8)
            .due(0, "on", 0).counts(1, 1, 0, 0, 0).asks(1, 3, "person", 0, 2).due(0, "undo", 0)
            .due(2, "on", 1).counts(1, 1, 0, 2, 2).asks(1, 7, "person", 0, 2).due(1, "undo", 1).due(1, "count", 3)
            .due(4, "on", 2).counts(1, 2, 1, 2, 4).isError(0, 0, 0, 0, 1, 1).isError(1, 0, 0, 0, 5, 0)
            .due(1, "undo", 3).due(0, "count", 2).due(3, "keep", 0).due(3, "on", 0).counts(1, 2, 0, 2, 3)
            .due(3, "count", 8);
        Edge.of(20, "BAD;").bad("keep", -1).bad("keep", 3).chain("p00").bad("keep", -1).bad("keep", 3)
            .bad("keep", Edge.LEAST).bad("keep", Edge.GREATEST).due(0, "keep", 2).due(0, "keep", 0).due(2, "count", 8);
        Edge.of(20, "STATE: no PERSONS.").state("keep", 0).state("keep", 2).text(0, "p00").state("keep", 1)
            .due(1, "chain", 0).due(0, "keep", 1).due(1, "count", 8);
    }

    private static void on() {
        Edge.of(21, "The CHAIN is as it was kept: how many TURNS.")
            .chain("p03d00x0A01").days(3).due(3, "keep", 1).days(5).due(1, "mend", 0, 1).errors(2, 11, 4)
            .due(3, "on", 1).counts(2, 1, 0, 3, 3, 1, 0, 1, 1).due(1, "undo", 2).due(2, "count", 3)
            .due(3, "on", 1).counts(2, 1, 0, 3, 3).mends(37, 0).full("day").due(40, "keep", 1).due(40, "undo", 0)
            .due(40, "on", 1).full("day").due(1, "count", 2).due(37, "undo", 3).due(0, "count", 2).due(3, "count", 3);
        // What was done since leaves no trace in the TURNS that are undone then.
        Edge.of(21, "The CHAIN is as it was kept: how many TURNS.")
            .chain("p00x0A01").days(2).errors(1, 0, 5).due(1, "mend", 0, 1).due(4, "keep", 0).due(4, "undo", 0)
            .due(1, "mend", 0, 1).errors(3, 10, 1).days(1).due(4, "on", 0).due(1, "undo", 3).counts(1, 2, 0, 2, 3)
            .isError(1, 0, 0, 0, 5, 0).due(1, "undo", 2).counts(1, 1, 0, 2, 2).due(1, "undo", 1).counts(1, 1, 0, 1, 1)
            .due(1, "undo", 0).counts(1, 1, 0, 0, 0);
        Edge.of(21, "BAD;").bad("on", -1).bad("on", 3).chain("p00").due(0, "keep", 0).due(0, "keep", 2)
            .bad("on", -1).bad("on", 3).bad("on", Edge.LEAST).bad("on", Edge.GREATEST).due(0, "on", 0).due(0, "on", 2);
        Edge.of(21, "NOTHING.")
            .finds(Edge.NOTHING, "on", 0).chain("p00").finds(Edge.NOTHING, "on", 0).days(1).due(1, "keep", 1)
            .finds(Edge.NOTHING, "on", 0).finds(Edge.NOTHING, "on", 2).due(1, "on", 1).due(1, "chain", 0)
            .finds(Edge.NOTHING, "on", 1);
    }
}
