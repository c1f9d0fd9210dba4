/** Promises 22 to 27: does, differ, since, worst, source, together. */
final class DoneEdges {
    private DoneEdges() {
    }

    static void run() {
        does();
        differ();
        since();
        worst();
        source();
        together();
    }

    private static void does() {
        Edge.of(22, "What a PERSON DOES in a TOWN on a DAY.")
            .chain("p31d02").due(3, "does", 0, 0, 0).due(2, "does", 0, 19, 0).due(3, "does", 4, 4, 0).due(8, "does", 4, 19, 0)
            .due(0, "does", 0, 0, 1).due(8, "does", 0, 19, 1).due(4, "does", 4, 4, 1).due(4, "does", 4, 19, 1);
        Edge.of(22, "NONE: nothing.")
            .chain("p00").none("does", 1, 0, 0).due(0, "does", 1, 1, 0).none("does", 4, 3, 0).due(0, "does", 4, 4, 0)
            .none("does", 2, 1, 0).due(0, "does", 2, 2, 0).none("does", 3, 2, 0).due(0, "does", 3, 3, 0);
        Edge.of(22, "BAD.").bad("does", 0, 0, 0).chain("p00p00")
            .bad("does", -1, 9, 0).bad("does", 5, 9, 0).bad("does", 0, -1, 0).bad("does", 0, 20, 0)
            .bad("does", 0, 0, -1).bad("does", 0, 0, 2).bad("does", Edge.LEAST, 0, 0).bad("does", Edge.GREATEST, 19, 0)
            .bad("does", 0, Edge.LEAST, 0).bad("does", 0, Edge.GREATEST, 0).bad("does", 0, 0, Edge.LEAST)
            .bad("does", 0, 0, Edge.GREATEST).bad("does", 5, 0, 0).bad("does", -1, -1, 0)
            .due(0, "does", 4, 19, 1);
    }

    private static void differ() {
        Edge.of(23, "PERSONS (bits) in whom two TOWNS (t the lesser number) DIFFER on a DAY (from u on).")
            .chain("d00p00d00p00d00x4T11")
            .due(1 + 4 + 16, "differ", 0, 1, 1).due(1 + 4 + 16, "differ", 3, 4, 4).due(1 + 4 + 16, "differ", 0, 4, 18)
            .due(1 + 2 + 4 + 16, "differ", 0, 4, 19).due(1 + 4 + 16, "differ", 2, 3, 19)
            .bad("differ", 0, 1, 0).bad("differ", 0, 4, 3).due(21, "differ", 0, 4, 4).bad("differ", 2, 3, 2).due(21, "differ", 2, 3, 3)
            .anew().chain("d00d00d00d00d00").due(31, "differ", 0, 4, 4);
        Edge.of(23, "PERSONS (bits) in whom two TOWNS (t the lesser number) DIFFER on a DAY (from u on).")
            .due(0, "differ", 0, 1, 1).due(0, "differ", 0, 4, 19).bad("differ", 0, 4, 3).bad("differ", 1, 1, 5);
        Edge.of(23, "BAD: also t not below u.")
            .chain("d00").bad("differ", 0, 0, 5).bad("differ", 1, 0, 5).bad("differ", 4, 4, 5).bad("differ", 4, 3, 5)
            .bad("differ", 4, 0, 19).due(1, "differ", 0, 1, 5).due(1, "differ", 3, 4, 5)
            .bad("differ", -1, 1, 5).bad("differ", 0, 5, 5).bad("differ", 4, 5, 5).bad("differ", -1, 0, 5)
            .bad("differ", Edge.LEAST, 1, 5).bad("differ", 0, Edge.GREATEST, 5).bad("differ", 0, 1, 20)
            .bad("differ", 0, 1, -1).bad("differ", 0, 1, Edge.LEAST).bad("differ", 0, 1, Edge.GREATEST).due(1, "differ", 0, 1, 19);
    }

    private static void since() {
        Edge.of(24, "The first DAY on which two TOWNS (t the lesser number) DIFFER in a PERSON; on how many DAYS they do by asked().")
            .chain("d00p00p00p00x4T11x4E21x1D31x1F31x2K34")
            .asks(1, 19, "since", 0, 1, 0).asks(4, 16, "since", 3, 4, 0).asks(4, 16, "since", 0, 4, 0)
            .asks(19, 1, "since", 0, 4, 1).asks(19, 1, "since", 3, 4, 1).asks(4, 1, "since", 0, 4, 2)
            .asks(3, 2, "since", 0, 1, 3).asks(4, 3, "since", 0, 2, 3).asks(10, 1, "since", 1, 2, 3).asks(6, 3, "since", 0, 4, 3);
        Edge.of(24, "The first DAY on which two TOWNS (t the lesser number) DIFFER in a PERSON;")
            .chain("p00p00p00p00d00").asks(1, 19, "since", 0, 1, 4).asks(2, 18, "since", 1, 2, 4).asks(4, 16, "since", 1, 4, 4)
            .none("since", 0, 1, 3);
        Edge.of(24, "NONE: never.")
            .chain("p31l00p00x4D21x4E29x1B23").asks(1, 19, "since", 0, 1, 1).none("since", 0, 4, 0).none("since", 0, 2, 1)
            .none("since", 3, 4, 0).none("since", 2, 3, 2).asks(4, 1, "since", 3, 4, 2).asks(4, 1, "since", 0, 4, 2)
            .due(1, "mend", 1, 1).none("since", 3, 4, 2);
        Edge.of(24, "BAD: also t not below u.")
            .bad("since", 0, 1, 0).chain("d00p00").bad("since", 0, 0, 0).bad("since", 1, 0, 0).bad("since", 4, 4, 0)
            .bad("since", 4, 3, 0).bad("since", -1, 1, 0).bad("since", 0, 5, 0).bad("since", 4, 5, 0).bad("since", -1, 0, 0)
            .bad("since", 0, 1, -1).bad("since", 0, 1, 2).bad("since", Edge.LEAST, 1, 0).bad("since", 0, Edge.GREATEST, 0)
            .bad("since", 0, 1, Edge.LEAST).bad("since", 0, 1, Edge.GREATEST).asks(1, 19, "since", 0, 1, 0);
    }

    private static void worst() {
        Edge most = Edge.of(25, "The TOWN (1 .. 4; the first) that DIFFERS from the one ahead in most PERSONS on a DAY (4 .. 19); "
            + "in how many by asked().");
        most.anew().chain("p00").asks(1, 0, "worst", 4).asks(1, 0, "worst", 19).bad("worst", 3).bad("worst", 20);
        most.anew().chain("p00x4E01").asks(4, 1, "worst", 4).asks(1, 0, "worst", 5);
        most.anew().chain("p00x1E01x4T01").asks(1, 1, "worst", 4).asks(4, 1, "worst", 19).asks(1, 0, "worst", 18);
        most.anew().chain("p00p00x2E01x3E11").asks(2, 1, "worst", 4);
        most.anew().chain("p00p00x2E01x3E11x3E01").asks(3, 2, "worst", 4);
        most.anew().chain("p00p00x2E01x4E11x3E01").asks(2, 1, "worst", 4);
        most.anew().chain("d00d00d00d00d00").asks(1, 5, "worst", 4).asks(1, 5, "worst", 19);
        // On TOWN 1's way a DRIFTER's 1 more is made good by 9 more.
        most.anew().chain("d00d00x1T09").asks(1, 2, "worst", 18).asks(2, 2, "worst", 19);
        Edge.of(25, "BAD;").bad("worst", 3).bad("worst", 20).chain("d00").asks(1, 1, "worst", 4)
            .bad("worst", 3).bad("worst", 0).bad("worst", -1).bad("worst", 20).bad("worst", Edge.LEAST).bad("worst", Edge.GREATEST);
        Edge.of(25, "STATE: no PERSONS.").state("worst", 4).state("worst", 19).chain("d00").asks(1, 1, "worst", 4);
    }

    private static void source() {
        Edge of = Edge.of(26, "ERRORS (bits) without which (each alone, if it is not MENDED) a PERSON would DO another DEED in a TOWN on a DAY.");
        of.anew().chain("p00p00x0A05x0A05x2C01x2D02x1B13")
            .due(1 + 2, "source", 0, 0, 0).due(1 + 2 + 4, "source", 2, 2, 0).due(1 + 2 + 8, "source", 2, 3, 0)
            .due(1 + 2, "source", 2, 4, 0).due(1 + 2, "source", 1, 1, 0).due(1 + 2 + 4, "source", 4, 4, 0)
            .due(16, "source", 1, 1, 1).due(16, "source", 4, 4, 1).due(0, "source", 0, 0, 1).due(0, "source", 1, 2, 1)
            .due(1, "mend", 0, 1).due(2, "source", 0, 0, 0).due(2, "mend", 1, 1).due(0, "source", 0, 0, 0)
            .due(4, "source", 2, 2, 0);
        // A FOOL DOES 5 in TOWN 2, with the ERROR or without it.
        of.anew().chain("f50x1B05").due(1, "source", 1, 1, 0).due(0, "source", 2, 2, 0);
        of.anew().chain("p00").errors(12, 0, 1).due(4095, "source", 0, 0, 0).due(4095, "source", 4, 19, 0)
            .due(1, "mend", 11, 1).due(2047, "source", 4, 4, 0);
        of.anew().chain("p00x0B01").due(0, "source", 0, 0, 0).due(1, "source", 0, 1, 0).due(0, "source", 1, 1, 0).due(1, "source", 1, 2, 0);
        Edge.of(26, "BAD: also a DAY ahead of the TOWN.")
            .bad("source", 0, 0, 0).chain("p00p00x0A01").bad("source", 1, 0, 0).due(1, "source", 1, 1, 0).bad("source", 4, 3, 0)
            .due(1, "source", 4, 4, 0).due(1, "source", 4, 19, 0).bad("source", 4, 20, 0).bad("source", 0, -1, 0).due(1, "source", 0, 0, 0)
            .bad("source", -1, 5, 0).bad("source", 5, 5, 0).bad("source", 0, 0, -1).bad("source", 0, 0, 2)
            .bad("source", Edge.LEAST, 0, 0).bad("source", Edge.GREATEST, 0, 0).bad("source", 0, Edge.LEAST, 0)
            .bad("source", 0, Edge.GREATEST, 0).bad("source", 0, 0, Edge.LEAST).bad("source", 0, 0, Edge.GREATEST);
    }

    private static void together() {
        Edge of = Edge.of(27, "On how many DAYS (from the TOWN's number on) two PERSONS DO the same in a TOWN; "
            + "the first of these by asked() (NONE: none).");
        of.anew().chain("p00p00p10p00x0T01")
            .asks(20, 0, "together", 0, 1, 3).asks(19, 1, "together", 1, 1, 3).asks(16, 4, "together", 4, 3, 1)
            .asks(19, 0, "together", 0, 0, 1).asks(1, 19, "together", 0, 0, 2).asks(0, -9, "together", 1, 0, 2)
            .asks(16, 4, "together", 4, 0, 3).asks(0, -9, "together", 0, 1, 2);
        of.anew().chain("p01p06").asks(10, 0, "together", 0, 0, 1).asks(10, 1, "together", 1, 0, 1);
        of.anew().chain("p01p15").asks(0, -9, "together", 0, 0, 1);
        Edge.of(27, "BAD: also the same.")
            .bad("together", 0, 0, 1).bad("together", 0, 0, 0).chain("p00p00").asks(20, 0, "together", 0, 0, 1)
            .bad("together", 0, 0, 0).bad("together", 4, 1, 1).bad("together", -1, 0, 1).bad("together", 5, 0, 1)
            .bad("together", 0, -1, 1).bad("together", 0, 2, 1).bad("together", 0, 0, -1).bad("together", 0, 0, 2)
            .bad("together", Edge.LEAST, 0, 1).bad("together", 0, Edge.LEAST, 1).bad("together", 0, 0, Edge.GREATEST)
            .asks(16, 4, "together", 4, 1, 0);
    }
}
