/** The document's terms ahead of section 1: refusals and their order, findings, chances, sets. */
final class TermsEdges {
    private TermsEdges() {
    }

    static void run() {
        calls();
        order();
        none();
        refusedChangesNothing();
        findings();
        lowestTerms();
        bits();
    }

    /** Not one call fewer, whether they are refused or not. */
    private static void calls() {
        Edge.of(Edge.WHOLE, "An object is used for at most 512 calls after it has been made; what later calls answer is free.");
        TownRepeated x = new TownRepeated();
        for (int n = 1; n <= 510; n++) {
            Check.due("call " + n + ": tear(0)", x.tear(0), TownRepeated.FINDING);
        }
        Check.due("call 511: findings(1)", x.findings(Edge.NOTHING), 510);
        Check.due("call 512: row(5, 40)", x.row(5, 40), 40);
        TownRepeated y = new TownRepeated();
        Check.due("call 1: row(0, 1)", y.row(0, 1), 1);
        for (int n = 2; n <= 512; n++) {
            Check.due("call " + n + ": lay(0, 0, ..)", y.lay(0, 0, n), 1);
        }
    }

    private static void order() {
        Edge of = Edge.of(Edge.TERMS, "Refused is, the first of these that fits, in this order: BAD -1 (a number that is none, or not as told), "
            + "FULL -2, STATE -4 (not now), SPENT -6 (more than told), FINDING -3 (finding() tells which), unless a call says so otherwise.");
        Check.due("BAD", TownRepeated.BAD, -1);
        Check.due("FULL", TownRepeated.FULL, -2);
        Check.due("FINDING", TownRepeated.FINDING, -3);
        Check.due("STATE", TownRepeated.STATE, -4);
        Check.due("SPENT", TownRepeated.SPENT, -6);
        // BAD ahead of FULL; ahead of STATE; ahead of a FINDING.
        of.anew().chain("p00").errors(12, 0, 1).due(-2, "err", 0, 1).due(-1, "err", 0, 0).due(-1, "err", 1, 1)
            .due(-2, "lots", 1, 1).due(-1, "lots", 1, 0);
        of.anew().due(-4, "worst", 4).due(-1, "worst", 3).due(-4, "lots", 1, 1).due(-1, "lots", 0, 1).due(-4, "keep", 0).due(-1, "keep", 3)
            .due(-4, "fits", 0).due(-1, "fits", 6).chain("p00").days(1).due(-4, "stride", 0, 0).due(-1, "stride", 0, 10);
        of.anew().due(-3, "row", 0, -1).due(-1, "row", 6, -1).due(-3, "text", 0, -1).due(-1, "text", 4, -1)
            .due(-3, "copy", 0, 0, 0, 0, -1).due(-1, "copy", 0, 0, 6, 0, -1).due(-3, "on", 0).due(-1, "on", 3)
            .chain("p00").due(-3, "mark", 0, 1).due(-1, "mark", 0, 0).due(-3, "tear", 0).due(-1, "tear", 6);
        // STATE ahead of a FINDING; where a call says so, behind it, and FULL last.
        of.anew().due(-4, "fits", 0).due(-4, "sure", 0).due(-4, "lies", 0).due(0, "finding").due(-3, "chain", 0).due(1, "finding")
            .due(0, "text", 0, 0).due(-4, "chain", 0).chain("p00x0A01").mends(40, 0).due(-4, "mend", 0, 0).due(-2, "mend", 0, 1);
    }

    private static void none() {
        Edge.of(Edge.TERMS, "NONE -9.").chain("p00").due(-9, "does", 1, 0, 0).due(-9, "fault", 0).due(-9, "since", 0, 1, 0)
            .due(-9, "warn", 1, 1, 0, 1).due(-9, "next", 0, 0, 0, 1).due(0, "finding");
        Check.due("NONE", TownRepeated.NONE, -9);
    }

    /** All that there can be is there, and each call is refused in each of its ways: nothing changes. */
    private static void refusedChangesNothing() {
        Edge x = Edge.of(Edge.TERMS, "What is refused changes nothing but finding(), findings().")
            .chain("d12f34x0A05x1B13").row(0, 0, 0, 0, 6).row(3, 0, 0, 0, 9).row(5, 3, 4, 5).due(0, "row", 4, 0).text(1, "p0").days(2)
            .due(2, "keep", 0).due(1, "mend", 1, 1).due(2, "err", 1021, 5).due(4, "keep", 2).days(3).due(1, "lots", 2, 5)
            .tells(1, 2, "odds", 0, 0, 0, 1, 6).asks(1, 5, "at", 5, 2);
        x.bad("row", 0, 41).finds(Edge.SIZE, "row", 0, -1).bad("lay", 6, 0, 1).finds(Edge.NOTHING, "lay", 1, 0, 1)
            .finds(Edge.BEYOND, "lay", 0, 4, 1).bad("at", 6, 0).finds(Edge.NOTHING, "at", 1, 0).finds(Edge.BEYOND, "at", 0, 4)
            .bad("tear", 6).finds(Edge.NOTHING, "tear", 1).bad("copy", 0, 0, 6, 0, 1).finds(Edge.SIZE, "copy", 0, 0, 5, 0, -1)
            .finds(Edge.NOTHING, "copy", 0, 0, 1, 0, 1).finds(Edge.BEYOND, "copy", 0, 0, 5, 0, 4).bad("mean", 6)
            .finds(Edge.NOTHING, "mean", 1).finds(Edge.NOUGHT, "mean", 4).bad("text", 0, 61).finds(Edge.SIZE, "text", 0, -1)
            .bad("put", 4, 0, 0).finds(Edge.NOTHING, "put", 2, 0, 0).finds(Edge.BEYOND, "put", 1, 2, 0).bad("fault", 4)
            .finds(Edge.NOTHING, "fault", 2).bad("chain", 4).finds(Edge.NOTHING, "chain", 2).state("chain", 1)
            .bad("person", 2, 0).bad("error", 5, 0).bad("mark", 0, 0).finds(Edge.UNLIKE, "mark", 0, 5).bad("stride", 0, 10)
            .state("stride", 0, 5);
        x.bad("mend", 5, 1).state("mend", 1, 1).bad("err", 2, 1).bad("undo", 8).bad("keep", 3).bad("on", 3).finds(Edge.NOTHING, "on", 1)
            .bad("does", 0, 0, 2).bad("differ", 1, 1, 5).bad("since", 1, 1, 0).bad("worst", 3).bad("source", 1, 0, 0)
            .bad("together", 0, 0, 0).bad("warn", 0, 1, 0, 0).bad("agree", 1, 1, 5).bad("next", 0, 20, 0, 0).bad("letter", 0, 0, 10)
            .bad("fits", 6).finds(Edge.NOTHING, "fits", 1).finds(Edge.SIZE, "fits", 5).bad("sure", 6).finds(Edge.NOTHING, "sure", 1)
            .finds(Edge.SIZE, "sure", 5).finds(Edge.NOUGHT, "sure", 3).bad("lies", 6).finds(Edge.NOTHING, "lies", 1).finds(Edge.SIZE, "lies", 5)
            .bad("odds", 0, 0, 0, 0, 13).bad("lots", 0, 1).full("lots", 8, 1).bad("count", 9).bad("findings", 6);
        x.due(1, "lay", 0, 0, 5).finds(Edge.UNLIKE, "fits", 0).finds(Edge.UNLIKE, "sure", 0).finds(Edge.UNLIKE, "lies", 0)
            .errors(7, 0, 1).full("err", 0, 1).full("lots", 1, 1).days(19).due(0, "undo", 30).state("day").mends(10, 0)
            .full("mend", 0, 1).state("day");
    }

    private static void findings() {
        Edge.of(Edge.TERMS, "FINDINGS: 1 NOTHING (a ROW, a TEXT, a kept CHAIN that is missing),")
            .finds(1, "at", 0, 0).due(1, "row", 0, 1).asks(1, 0, "at", 0, 0).finds(1, "put", 0, 0, 0).text(0, "p00")
            .due(-9, "fault", 0).due(1, "chain", 0).finds(1, "on", 0).due(0, "keep", 0).due(0, "on", 0);
        Edge.of(Edge.TERMS, "2 BEYOND (a place that there is not),")
            .due(2, "row", 0, 2).finds(2, "at", 0, -1).asks(1, 0, "at", 0, 0).asks(1, 0, "at", 0, 1).finds(2, "at", 0, 2)
            .due(2, "text", 0, 2).finds(2, "put", 0, -1, 0).due(1032, "put", 0, 0, 0).due(1032, "put", 0, 1, 0).finds(2, "put", 0, 2, 0)
            .finds(2, "copy", 0, 0, 0, 1, 2).due(1, "copy", 0, 0, 0, 1, 1);
        Edge.of(Edge.TERMS, "3 UNLIKE (a PERSON of another KIND; a number that is none),")
            .chain("d00").finds(3, "mark", 0, 2).due(4, "mark", 0, 1).row(0, 0, 0, 0, 10).finds(3, "lies", 0)
            .row(0, 0, 0, 0, 9).asks(1, 0, "lies", 0).row(0, 0, 0, 1, 9).finds(3, "lies", 0);
        Edge.of(Edge.TERMS, "4 NOUGHT (shared among none; nothing fits),")
            .chain("d00").due(0, "row", 0, 0).finds(4, "mean", 0).due(1, "row", 0, 1).asks(1, 0, "mean", 0)
            .row(0, 0, 0, 0, 9).finds(4, "sure", 0).row(0, 0, 0, 0, 0).asks(0, 0, "sure", 0);
        Edge.of(Edge.TERMS, "5 SIZE (fewer than none; not as many as due).")
            .finds(5, "row", 0, -1).due(0, "row", 0, 0).finds(5, "text", 0, -1).due(0, "text", 0, 0).finds(5, "copy", 0, 0, 0, 0, -1)
            .due(1, "copy", 0, 0, 0, 0, 0).chain("d00").due(3, "row", 0, 3).finds(5, "fits", 0).due(5, "row", 0, 5).finds(5, "fits", 0)
            .due(4, "row", 0, 4).tells(1, 1, "fits", 0);
    }

    private static void lowestTerms() {
        Edge.of(Edge.TERMS, "Chances, numbers are told by upper(), lower(), in lowest terms, the lower number above 0 (0 by 1).")
            .due(0, "upper").due(1, "lower").chain("p00x0A01x0A02")
            .tells(1, 4, "odds", 0, 0, 0, 1, 6).tells(2, 9, "odds", 0, 0, 0, 1, 4).tells(35, 144, "odds", 0, 0, 0, 1, 7)
            .tells(0, 1, "odds", 0, 0, 0, 4, 6).tells(0, 1, "odds", 0, 0, 0, 1, 0).tells(0, 1, "odds", 0, 0, 0, 1, 12)
            .tells(1, 1, "odds", 0, 0, 0, 3, 12).tells(1, 1, "odds", 0, 0, 0, 0, 0).row(0, 0, 0, 0, 4).tells(0, 1, "fits", 0)
            .due(0, "row", 0, 0).tells(4, 1, "fits", 0);
    }

    private static void bits() {
        Edge.of(Edge.TERMS, "Sets (of PERSONS, of ERRORS) are told by bits.")
            .chain("p00p00d00p00d00x0A01x1B02").due(4 + 16, "differ", 0, 1, 2).due(1 + 4 + 16, "differ", 0, 1, 1)
            .due(1, "source", 0, 0, 0).due(1 + 2, "source", 1, 1, 0).errors(10, 10, 1).due(1 + 4 + 8 + 4080, "source", 0, 1, 0);
    }
}
