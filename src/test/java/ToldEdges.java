/** Promises 37 to 43: asked, upper, lower, count, finding, findings, digest. */
final class ToldEdges {
    private ToldEdges() {
    }

    static void run() {
        asked();
        askedNotByOthers();
        askedNotByRefused();
        upperAndLower();
        count();
        finding();
        findings();
        digest();
        digestOfRowsAndTexts();
    }

    private static void asked() {
        String sentence = "What the latest lay(), at(), mean(), person(), error(), since(), worst(), together(), warn(), agree(), "
            + "letter(), fits(), sure(), lies() that was not refused (nor NONE, but as told) told; 0 before.";
        Edge of = Edge.of(37, sentence);
        of.anew().due(0, "asked").chain("d12p30x1B15").due(0, "asked")
            .row(0, 8, 9).asks(1, 8, "lay", 0, 0, 4).asks(1, 9, "at", 0, 1).asks(1, 6, "mean", 0)
            .asks(1, 3, "person", 1, 1).asks(1, 5, "error", 0, 3).asks(1, 19, "since", 0, 1, 0).asks(1, 1, "worst", 4)
            .due(1, "asked").due(1, "asked");
        of.anew().chain("p00p00x1B15").asks(1, 0, "worst", 4).asks(20, 0, "together", 0, 0, 1).asks(9, 1, "warn", 1, 9, 0, 0)
            .asks(0, 0, "agree", 0, 1, 2).asks(1, 1, "agree", 0, 1, 1).asks(6, 5, "letter", 0, 0, 9)
            .due(0, "row", 0, 0).asks(1, 0, "fits", 0).row(1, 1, 1, 1, 0).asks(1, 0, "fits", 1).asks(0, 1, "sure", 1)
            .asks(1, 0, "lies", 1).asks(0, -9, "lies", 0).asks(1, -9, "person", 0, 4);
        // NONE as told is told: together, fits, lies, person.
        of.anew().chain("p00p10").asks(0, -9, "together", 0, 0, 1).asks(1, 1, "person", 1, 1).row(0, 0, 0, 0, 5)
            .asks(1, -9, "fits", 0).asks(1, 0, "lies", 0);
    }

    private static void askedNotByOthers() {
        Edge x = Edge.of(37, "0 before.").due(0, "asked").due(4, "row", 0, 4).due(3, "text", 0, 3).due(0, "asked")
            .anew().chain("d12p30x1B05").row(0, 0, 0, 0, 77).due(0, "asked").asks(1, 77, "at", 0, 3);
        x.due(5, "row", 1, 5).due(1, "copy", 0, 0, 1, 0, 1).due(1, "tear", 1).due(3, "text", 1, 3).due(1032, "put", 1, 1, 1)
            .due(1, "fault", 1).due(4, "mark", 0, 1).due(2, "stride", 0, 2).due(0, "keep", 0).due(1, "mend", 0, 1)
            .due(1, "err", 0, 1).due(1, "day").due(2, "undo", 1).due(0, "on", 0).due(1, "does", 0, 0, 0).due(1, "differ", 0, 1, 2)
            .due(1, "source", 1, 1, 0).due(2, "next", 0, 0, 0, 5).tells(1, 1, "odds", 0, 0, 0, 1, 1).due(1, "lots", 1, 1)
            .due(1, "upper").due(1, "lower").due(2, "count", 0).due(0, "finding").due(0, "findings", 1).due(2, "chain", 0)
            .due(77, "asked");
    }

    private static void askedNotByRefused() {
        Edge.of(37, "that was not refused (nor NONE, but as told) told;")
            .chain("d12p30x1B05").row(0, 0, 0, 0, 77).asks(1, 77, "at", 0, 3)
            .finds(Edge.BEYOND, "lay", 0, 4, 1).finds(Edge.BEYOND, "at", 0, 4).finds(Edge.NOTHING, "mean", 3).bad("person", 2, 0)
            .bad("error", 1, 0).bad("since", 1, 1, 0).none("since", 0, 4, 1).bad("worst", 3).bad("together", 0, 0, 0)
            .bad("warn", 0, 1, 0, 0).none("warn", 4, 3, 0, 0).bad("agree", 1, 1, 1).none("agree", 0, 1, 2).bad("letter", 5, 0, 0)
            .finds(Edge.UNLIKE, "fits", 0).finds(Edge.UNLIKE, "sure", 0).finds(Edge.UNLIKE, "lies", 0).due(77, "asked");
        Edge.of(37, "that was not refused (nor NONE, but as told) told;")
            .chain("p00x0A01").row(0, 0, 0, 0, 5).row(1, 44).asks(1, 44, "at", 1, 0).finds(Edge.NOUGHT, "sure", 0).due(44, "asked")
            .asks(1, -9, "fits", 0).asks(1, 44, "at", 1, 0).due(0, "row", 2, 0).finds(Edge.NOUGHT, "mean", 2).due(44, "asked");
    }

    private static void upperAndLower() {
        Edge.of(38, "The upper number that was told last; 0 before.")
            .due(0, "upper").chain("p00x1B05").due(0, "upper").tells(2, 3, "odds", 1, 1, 0, 5, 8).due(2, "upper")
            .bad("odds", 1, 1, 0, 5, 13).finds(Edge.NOTHING, "fits", 0).due(0, "row", 0, 0).asks(0, 0, "sure", 0).asks(0, -9, "lies", 0)
            .asks(1, 1, "agree", 0, 1, 1).asks(6, 5, "letter", 0, 0, 9).due(2, "upper").tells(2, 1, "fits", 0)
            .tells(0, 1, "odds", 1, 1, 0, 9, 8).row(1, 1, 1, 0, 9).tells(1, 3, "odds", 1, 1, 0, 0, 8).tells(0, 1, "fits", 1).due(0, "upper");
        Edge.of(39, "Its lower number; 1 before.")
            .due(1, "lower").chain("p00x1B05").due(1, "lower").tells(2, 3, "odds", 1, 1, 0, 5, 8).due(3, "lower")
            .bad("odds", 1, 1, 0, 5, -1).finds(Edge.NOTHING, "fits", 0).due(3, "lower").due(0, "row", 0, 0).asks(0, 0, "sure", 0)
            .due(3, "lower").tells(2, 1, "fits", 0).due(1, "lower").tells(1, 12, "odds", 1, 1, 0, 5, 1)
            .tells(0, 1, "odds", 1, 1, 0, 1, 1).due(1, "lower");
    }

    private static void count() {
        Edge.of(40, "0 PERSONS, 1 ERRORS, 2 how many of these are MENDED, 3 TODAY, 4 TURNS, 5 DRIFTERS (SPIES, too), 6 ROWS, "
            + "7 TEXTS that are there, 8 kept CHAINS.")
            .counts(0, 0, 0, 0, 0, 0, 0, 0, 0).chain("d12s30z00l11p99x1B05").counts(5, 1, 0, 0, 0, 2, 0, 1, 0)
            .due(1, "mend", 0, 1).counts(5, 1, 1, 0, 1, 2, 0, 1, 0).errors(2, 0, 1).counts(5, 3, 1, 0, 3, 2, 0, 1, 0)
            .days(4).counts(5, 3, 1, 4, 7, 2, 0, 1, 0).due(0, "row", 0, 0).due(1, "row", 5, 1).due(2, "row", 5, 2)
            .counts(5, 3, 1, 4, 7, 2, 2, 1, 0).due(0, "text", 3, 0).counts(5, 3, 1, 4, 7, 2, 2, 2, 0)
            .due(7, "keep", 0).due(7, "keep", 0).counts(5, 3, 1, 4, 7, 2, 2, 2, 1).due(7, "keep", 1).due(7, "keep", 2)
            .counts(5, 3, 1, 4, 7, 2, 2, 2, 3).due(1, "tear", 5).counts(5, 3, 1, 4, 7, 2, 1, 2, 3);
        Edge all = Edge.of(40, "6 ROWS, 7 TEXTS that are there, 8 kept CHAINS.");
        for (int r = 0; r <= 5; r++) {
            all.due(0, "row", r, 0).due(r + 1, "count", 6);
        }
        for (int t = 0; t <= 3; t++) {
            all.due(0, "text", t, 0).due(t + 1, "count", 7);
        }
        all.chain("s00s00d00d00s00").due(5, "count", 5).due(4, "count", 7);
        for (int k = 0; k <= 2; k++) {
            all.due(0, "keep", k).due(k + 1, "count", 8);
        }
        Edge.of(40, "BAD.").bad("count", -1).bad("count", 9).bad("count", Edge.LEAST).bad("count", Edge.GREATEST)
            .due(0, "count", 0).due(0, "count", 8);
    }

    private static void finding() {
        Edge.of(41, "The latest FINDING (0 before any).")
            .due(0, "finding").bad("row", 6, 0).state("day").due(0, "finding").finds(Edge.NOTHING, "tear", 0).due(1, "finding")
            .finds(Edge.SIZE, "row", 0, -1).due(5, "finding").due(0, "row", 0, 0).due(5, "finding").finds(Edge.NOUGHT, "mean", 0)
            .due(4, "finding").finds(Edge.BEYOND, "at", 0, 0).due(2, "finding").bad("at", 6, 0).due(2, "finding").chain("p00")
            .due(2, "finding").finds(Edge.UNLIKE, "mark", 0, 1).due(3, "finding").none("does", 1, 0, 0).due(3, "finding")
            .finds(Edge.NOTHING, "on", 0).due(1, "finding");
    }

    private static void findings() {
        Edge x = Edge.of(42, "How often a FINDING (1 .. 5) was answered.");
        for (int f = 1; f <= 5; f++) {
            x.due(0, "findings", f);
        }
        x.finds(Edge.NOTHING, "tear", 0).finds(Edge.NOTHING, "fault", 0).finds(Edge.NOTHING, "on", 0).due(0, "row", 0, 0)
            .finds(Edge.BEYOND, "at", 0, 0).finds(Edge.BEYOND, "lay", 0, 0, 0).chain("p00").finds(Edge.UNLIKE, "mark", 0, 1)
            .finds(Edge.NOUGHT, "mean", 0).finds(Edge.SIZE, "row", 0, -1).finds(Edge.SIZE, "text", 0, -1)
            .finds(Edge.SIZE, "row", 1, -1).finds(Edge.SIZE, "copy", 0, 0, 0, 0, -1)
            .due(3, "findings", 1).due(2, "findings", 2).due(1, "findings", 3).due(1, "findings", 4).due(4, "findings", 5)
            .bad("at", 6, 0).bad("mark", 0, 0).due(3, "findings", 1).due(2, "findings", 2).due(1, "findings", 3);
        Edge.of(42, "BAD.").bad("findings", 0).bad("findings", -1).bad("findings", 6).bad("findings", Edge.LEAST)
            .bad("findings", Edge.GREATEST).due(0, "findings", 1).due(0, "findings", 5);
    }

    private static long fold(int... values) {
        long h = 17;
        for (int v : values) {
            h = 31 * h + v;
        }
        return h;
    }

    private static void digest() {
        Edge of = Edge.of(43, "h = 17; then h = 31 h + v for each v: count() 0 to 8; of each PERSON person() 0 to 4; of each ERROR "
            + "error() 0 to 4; of each kept CHAIN how many TURNS (-1: missing);");
        of.anew().due(fold(0, 0, 0, 0, 0, 0, 0, 0, 0, -1, -1, -1, -1, -1, -1, -1, -1, -1, -1, -1, -1, -1), "digest");
        of.anew().chain("d12").due(fold(1, 0, 0, 0, 0, 1, 0, 1, 0, 1, 1, 2, 1, -9, -1, -1, -1, -1, -1, -1, -1, -1, -1,
            3, 'd', '1', '2', -1, -1, -1), "digest");
        of.anew().chain("d12p90x1B05").days(4).due(1, "mend", 0, 1).due(1, "err", 4191, 9).due(6, "keep", 2).due(2, "undo", 4)
            .due(4, "keep", 0).due(0, "text", 0, 0)
            .due(fold(2, 1, 0, 4, 4, 1, 0, 1, 2, 1, 1, 2, 9, 0, 0, 9, 0, 9, 9, 1, 1, 0, 5, 0, 4, -1, 6,
                -1, -1, -1, -1, -1, -1, 0, -1, -1, -1), "digest")
            .due(1, "mend", 0, 1)
            .due(fold(2, 1, 1, 4, 5, 1, 0, 1, 2, 1, 1, 2, 9, 5, 0, 9, 0, 9, 9, 1, 1, 0, 5, 1, 4, -1, 6,
                -1, -1, -1, -1, -1, -1, 0, -1, -1, -1), "digest");
        // A kept CHAIN without TURNS is there: 0, not -1.
        of.anew().chain("p00").due(0, "keep", 1).due(0, "text", 0, 0)
            .due(fold(1, 0, 0, 0, 0, 0, 0, 1, 1, 0, 0, 0, 0, -9, -1, 0, -1, -1, -1, -1, -1, -1, -1, 0, -1, -1, -1), "digest");
    }

    private static void digestOfRowsAndTexts() {
        Edge.of(43, "of each ROW its size (-1: missing) and places, of each TEXT likewise.")
            .due(0, "row", 0, 0).row(5, -7, Edge.LEAST).row(3, Edge.GREATEST).due(2, "text", 0, 2).due(1032, "put", 0, 0, 255)
            .due(0, "text", 3, 0)
            .due(fold(0, 0, 0, 0, 0, 0, 3, 2, 0, -1, -1, -1, 0, -1, -1, 1, Edge.GREATEST, -1, 2, -7, Edge.LEAST,
                2, -1, 32, -1, -1, 0), "digest")
            .due(1, "tear", 0).due(1, "row", 5, 1).due(1, "text", 0, 1)
            .due(fold(0, 0, 0, 0, 0, 0, 2, 2, 0, -1, -1, -1, -1, -1, -1, 1, Edge.GREATEST, -1, 1, 0, 1, 32, -1, -1, 0), "digest");
        int[] all = new int[9 + 3 + 5 + 41 + 3 + 61];
        java.util.Arrays.fill(all, -1);
        java.util.Arrays.fill(all, 0, 9, 0);
        all[6] = 1;
        all[7] = 1;
        all[17] = 40;
        java.util.Arrays.fill(all, 18, 58, 0);
        all[57] = 5;
        all[61] = 60;
        java.util.Arrays.fill(all, 62, 122, 32);
        all[121] = 6;
        Edge.of(43, "of each ROW its size (-1: missing) and places, of each TEXT likewise.")
            .due(40, "row", 5, 40).due(1, "lay", 5, 39, 5).due(60, "text", 3, 60).due(1032, "put", 3, 59, 6)
            .due(fold(all), "digest");
    }
}
