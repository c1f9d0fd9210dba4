/** Promises 12 to 15: person, error, mark, stride. */
final class ChainEdges {
    private ChainEdges() {
    }

    static void run() {
        person();
        error();
        markOfDrifters();
        markOfLazyOnes();
        markOfLeftOnes();
        markOfSpies();
        markOfFools();
        markRefused();
        stride();
    }

    private static void person() {
        Edge.of(12, "Of a PERSON: 0 the KIND, 1 the DEED of DAY 0, 2 the STRIDE, 3 what it DOES TODAY in TOWN 0, "
            + "4 in TOWN 4 (NONE), told by asked(): 1.")
            .chain("p00d37")
            .asks(1, 1, "person", 1, 0).asks(1, 3, "person", 1, 1).asks(1, 7, "person", 1, 2)
            .asks(1, 3, "person", 1, 3).asks(1, -9, "person", 1, 4)
            .days(3).asks(1, 3, "person", 1, 1).asks(1, 4, "person", 1, 3).asks(1, -9, "person", 1, 4)
            .days(4).asks(1, 1, "person", 1, 3).asks(1, 7, "person", 1, 4)
            .days(5).asks(1, 8, "person", 1, 3).asks(1, 4, "person", 1, 4)
            .days(19).asks(1, 6, "person", 1, 3).asks(1, 2, "person", 1, 4);
        Edge.of(12, "1 the DEED of DAY 0, 2 the STRIDE, 3 what it DOES TODAY in TOWN 0,")
            .chain("p37x0A02").asks(1, 3, "person", 0, 1).asks(1, 5, "person", 0, 3)
            .due(7, "stride", 0, 0).asks(1, 0, "person", 0, 2).asks(1, 5, "person", 0, 3);
        Edge.of(12, "BAD.").bad("person", 0, 0).chain("p12d34").asks(1, 3, "person", 1, 1)
            .bad("person", -1, 1).bad("person", 2, 1).bad("person", Edge.LEAST, 1).bad("person", Edge.GREATEST, 1)
            .bad("person", 0, -1).bad("person", 0, 5).bad("person", 0, Edge.LEAST).bad("person", 0, Edge.GREATEST)
            .asks(1, 1, "person", 0, 1).asks(1, -9, "person", 1, 4);
    }

    private static void error() {
        Edge.of(13, "Of an ERROR: 0 the TOWN, 1 the DAY, 2 the PERSON, 3 by how much, 4 whether it is MENDED (1, 0), told by asked(): 1.")
            .chain("p00p00p00x4T29x0A01").isError(0, 4, 19, 2, 9, 0).isError(1, 0, 0, 0, 1, 0)
            .due(1, "mend", 0, 1).isError(0, 4, 19, 2, 9, 1).isError(1, 0, 0, 0, 1, 0)
            .due(0, "mend", 0, 0).isError(0, 4, 19, 2, 9, 0)
            .errors(1, 3021, 5).isError(2, 3, 2, 1, 5, 0).due(1, "mend", 2, 1).isError(2, 3, 2, 1, 5, 1);
        Edge.of(13, "BAD.").bad("error", 0, 0).chain("p00x0A01").asks(1, 1, "error", 0, 3)
            .bad("error", -1, 0).bad("error", 1, 0).bad("error", Edge.LEAST, 0).bad("error", Edge.GREATEST, 0)
            .bad("error", 0, -1).bad("error", 0, 5).bad("error", 0, Edge.LEAST).bad("error", 0, Edge.GREATEST)
            .errors(1, 0, 1).asks(1, 0, "error", 1, 4).bad("error", 2, 0).due(1, "undo", 0).bad("error", 1, 0)
            .errors(11, 0, 1).asks(1, 1, "error", 11, 3).bad("error", 12, 3);
    }

    private static void markOfDrifters() {
        String sentence = "a DRIFTER (SPY, too) by how much more it DOES in TOWN 4 on DAY 19 than in TOWN 0 on DAY 15 (modulo 10),";
        Edge of = Edge.of(14, sentence);
        of.anew().chain("d00").due(4, "mark", 0, 1);
        of.anew().chain("d93").due(4, "mark", 0, 1);
        // From 8 to 2, from 0 to 9, from 0 to 10.
        of.anew().chain("d00x0A08").due(4, "mark", 0, 1);
        of.anew().chain("d00x4T05").due(9, "mark", 0, 1);
        of.anew().chain("d00x4T06").due(0, "mark", 0, 1);
        of.anew().chain("d00x4S05").due(4, "mark", 0, 1);
        of.anew().chain("d00x0P07").due(4, "mark", 0, 1);
        of.anew().chain("d00x0Q07").due(4, "mark", 0, 1);
        of.anew().chain("d00x1Q01").due(5, "mark", 0, 1);
        of.anew().chain("d00x1P01x1R01").due(4, "mark", 0, 1);
        // DAY 18 is the one of 16 to 19 that 3 divides.
        of.anew().chain("s00").due(5, "mark", 0, 1);
    }

    private static void markOfLazyOnes() {
        Edge of = Edge.of(14, "a LAZY one (FOOL, too) on how many DAYS it DOES in TOWN 0 as on the DAY ahead,");
        of.anew().chain("z01f01").due(10, "mark", 0, 2).due(10, "mark", 1, 2);
        of.anew().chain("z00f00").due(19, "mark", 0, 2).due(19, "mark", 1, 2);
        of.anew().chain("z00x0A05").due(19, "mark", 0, 2);
        of.anew().chain("z00x0B05").due(18, "mark", 0, 2);
        of.anew().chain("z00x0T05").due(18, "mark", 0, 2);
        of.anew().chain("z03x0C07").due(11, "mark", 0, 2);
        of.anew().chain("z01x1B05x4T05").due(10, "mark", 0, 2);
    }

    private static void markOfLeftOnes() {
        Edge of = Edge.of(14, "a LEFT one in how many TOWNS it DOES on DAY 19 what it DOES in TOWN 0, TOWN 0 aside,");
        of.anew().chain("l00").due(2, "mark", 0, 3);
        of.anew().chain("l00x1T01x3T01").due(4, "mark", 0, 3);
        // TOWN 0 9; the others 1, 7, 3, 5.
        of.anew().chain("l01").due(0, "mark", 0, 3);
        // TOWN 1 on DAY 18 makes TOWN 2 on DAY 19 another.
        of.anew().chain("l00x1S01").due(1, "mark", 0, 3);
        of.anew().chain("l00x0T05").due(0, "mark", 0, 3);
    }

    private static void markOfSpies() {
        Edge of = Edge.of(14, "a SPY how many others DO TODAY in TOWN 0 as it DOES,");
        of.anew().chain("s00").due(0, "mark", 0, 4);
        of.anew().chain("s00p00d00z00s00").due(4, "mark", 0, 4).due(4, "mark", 4, 4);
        of.anew().chain("p01s00x0D01").due(1, "mark", 1, 4).days(1).due(0, "mark", 1, 4).days(9).due(1, "mark", 1, 4)
            .days(10).due(0, "mark", 1, 4).due(2, "undo", 8).due(0, "mark", 1, 4).due(1, "mend", 0, 1).due(0, "mark", 1, 4)
            .days(10).due(1, "mark", 1, 4);
    }

    private static void markOfFools() {
        Edge of = Edge.of(14, "a FOOL on how many DAYS it DOES 0 in TOWN 0.");
        of.anew().chain("f00").due(20, "mark", 0, 5);
        of.anew().chain("f10").due(0, "mark", 0, 5);
        of.anew().chain("f10x0T09").due(1, "mark", 0, 5);
        of.anew().chain("f10x0A09").due(20, "mark", 0, 5);
        of.anew().chain("f00x0B01").due(1, "mark", 0, 5);
        of.anew().chain("f10x1B09").due(0, "mark", 0, 5);
        of.anew().chain("f01").due(2, "mark", 0, 5);
    }

    private static void markRefused() {
        Edge.of(14, "What a PERSON that IS of a KIND tells:")
            .chain("p00d00z00l00s00").finds(Edge.UNLIKE, "mark", 0, 1).due(4, "mark", 1, 1)
            .finds(Edge.UNLIKE, "mark", 1, 2).due(19, "mark", 2, 2).finds(Edge.UNLIKE, "mark", 2, 3).due(2, "mark", 3, 3)
            .finds(Edge.UNLIKE, "mark", 3, 4).due(4, "mark", 4, 4).due(5, "mark", 4, 1).finds(Edge.UNLIKE, "mark", 1, 4)
            .finds(Edge.UNLIKE, "mark", 4, 5).finds(Edge.UNLIKE, "mark", 2, 5);
        Edge.of(14, "BAD: also KIND 0; UNLIKE.")
            .bad("mark", 0, 1).chain("p00f00")
            .bad("mark", 0, 0).bad("mark", 1, 0).bad("mark", 0, -1).bad("mark", 1, 6).bad("mark", 0, Edge.LEAST)
            .bad("mark", 0, Edge.GREATEST).bad("mark", -1, 1).bad("mark", 2, 1).bad("mark", 2, 0)
            .bad("mark", Edge.LEAST, 5).bad("mark", Edge.GREATEST, 5)
            .finds(Edge.UNLIKE, "mark", 0, 1).finds(Edge.UNLIKE, "mark", 0, 5).finds(Edge.UNLIKE, "mark", 1, 1)
            .due(20, "mark", 1, 5);
    }

    private static void stride() {
        Edge.of(15, "The STRIDE of a PERSON is v (0 .. 9): what it was.")
            .chain("p03z04").due(3, "stride", 0, 0).due(0, "does", 0, 1, 0).due(0, "stride", 0, 9).due(9, "does", 0, 1, 0)
            .due(9, "stride", 0, 9).due(1, "does", 0, 19, 0).due(4, "stride", 1, 1).due(9, "does", 0, 19, 1)
            .due(0, "count", 4).bad("stride", 0, -1).bad("stride", 0, 10);
        Edge.of(15, "BAD;").bad("stride", 0, 0).chain("p03z04")
            .bad("stride", -1, 1).bad("stride", 2, 1).bad("stride", Edge.LEAST, 1).bad("stride", Edge.GREATEST, 1)
            .bad("stride", 0, Edge.LEAST).bad("stride", 0, Edge.GREATEST)
            .days(1).bad("stride", 2, 1).bad("stride", 0, 10).state("stride", 0, 3);
        Edge.of(15, "STATE: there are TURNS.")
            .chain("p03x0A01").due(3, "stride", 0, 5).days(1).state("stride", 0, 4).due(1, "undo", 0).due(5, "stride", 0, 4)
            .due(1, "mend", 0, 1).state("stride", 0, 4).due(1, "undo", 0).due(4, "stride", 0, 3)
            .errors(1, 0, 1).state("stride", 0, 3).due(1, "keep", 0).due(1, "undo", 0).due(3, "stride", 0, 2)
            .due(1, "on", 0).state("stride", 0, 1).due(1, "undo", 0).due(3, "stride", 0, 1);
    }
}
