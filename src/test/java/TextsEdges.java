/** Promises 8 to 11: text, put, fault, chain. */
final class TextsEdges {
    private TextsEdges() {
    }

    static void run() {
        text();
        put();
        fault();
        chain();
        chainRefused();
    }

    private static void text() {
        Edge.of(8, "A TEXT is there with n blanks: n.")
            .due(0, "text", 0, 0).finds(Edge.BEYOND, "put", 0, 0, 0)
            .due(60, "text", 3, 60).due(1032, "put", 3, 0, 7).due(1032, "put", 3, 59, 8).finds(Edge.BEYOND, "put", 3, 60, 0)
            .due(60, "text", 3, 60).due(1032, "put", 3, 0, 7).due(1032, "put", 3, 59, 8)
            .due(1, "text", 3, 1).finds(Edge.BEYOND, "put", 3, 1, 0)
            .due(60, "text", 3, 60).due(1032, "put", 3, 59, 8)
            .finds(Edge.NOTHING, "put", 1, 0, 0).due(2, "count", 7);
        Edge.of(8, "BAD: also n above 60;")
            .due(59, "text", 0, 59).due(60, "text", 0, 60)
            .bad("text", 0, 61).bad("text", 0, 62).bad("text", 0, Edge.GREATEST)
            .bad("text", -1, 3).due(3, "text", 0, 3).due(3, "text", 3, 3).bad("text", 4, 3)
            .bad("text", Edge.LEAST, 3).bad("text", Edge.GREATEST, 3);
        Edge.of(8, "SIZE: below 0.")
            .due(2, "text", 0, 2).due(0, "text", 1, 0)
            .finds(Edge.SIZE, "text", 0, -1).finds(Edge.SIZE, "text", 3, -2).finds(Edge.SIZE, "text", 0, Edge.LEAST)
            .bad("text", 4, -1).bad("text", -1, -1)
            .due(2, "count", 7).due(1032, "put", 0, 1, 0);
    }

    private static void put() {
        Edge cut = Edge.of(9, "Byte i of a TEXT is v, cut to a byte: what it was, and 1000 more.")
            .due(2, "text", 0, 2).due(1032, "put", 0, 1, 0);
        int[] whole = {0, 1, 127, 128, 129, 255, 256, 257, -1, -127, -128, -129, -256, -257, Edge.GREATEST, Edge.LEAST};
        int[] bytes = {0, 1, 127, -128, -127, -1, 0, 1, -1, -127, -128, 127, 0, -1, -1, 0};
        int was = 0;
        for (int i = 0; i < whole.length; i++) {
            cut.due(1000 + was, "put", 0, 1, whole[i]);
            was = bytes[i];
        }
        cut.due(1000, "put", 0, 1, 5).due(1032, "put", 0, 0, 9).due(1005, "put", 0, 1, 5);
        Edge.of(9, "Byte i of a TEXT is v, cut to a byte: what it was, and 1000 more.")
            .due(3, "text", 1, 3).due(1032, "put", 1, 0, 'p' + 256).due(1032, "put", 1, 1, '4' - 256)
            .due(1032, "put", 1, 2, '5' + 65536).due(1, "chain", 1).asks(1, 4, "person", 0, 1).asks(1, 5, "person", 0, 2);
        Edge.of(9, "BAD; NOTHING; BEYOND.")
            .due(2, "text", 0, 2).due(60, "text", 3, 60).due(0, "text", 1, 0)
            .bad("put", -1, 0, 7).bad("put", 4, 0, 7).bad("put", 4, 99, 7).bad("put", Edge.LEAST, -1, 7)
            .finds(Edge.NOTHING, "put", 2, 0, 7).finds(Edge.NOTHING, "put", 2, -1, 7).finds(Edge.NOTHING, "put", 2, 60, 7)
            .finds(Edge.BEYOND, "put", 0, -1, 7).finds(Edge.BEYOND, "put", 0, 2, 7).finds(Edge.BEYOND, "put", 1, 0, 7)
            .finds(Edge.BEYOND, "put", 3, 60, 7).finds(Edge.BEYOND, "put", 0, Edge.GREATEST, 7)
            .finds(Edge.BEYOND, "put", 0, Edge.LEAST, 7)
            .due(1032, "put", 0, 0, 3).due(1032, "put", 0, 1, 4).due(1032, "put", 3, 59, 7);
    }

    private static void fault() {
        Edge.of(10, "A FAULT of a TEXT; NONE: there is none.")
            .text(0, "p0").due(2, "fault", 0)
            .text(0, "p00").none("fault", 0).due(0, "count", 0)
            .text(3, "p0x").due(2, "fault", 3).none("fault", 0)
            .due(0, "text", 3, 0).due(0, "fault", 3)
            .due(60, "text", 3, 60).due(60, "fault", 3)
            .due(1032, "put", 3, 57, 'p').due(58, "fault", 3).due(1032, "put", 3, 58, '0').due(59, "fault", 3)
            .due(1032, "put", 3, 59, '0').none("fault", 3);
        Edge.of(10, "BAD; NOTHING.")
            .text(0, "p00").text(3, "p00")
            .bad("fault", -1).bad("fault", 4).bad("fault", Edge.LEAST).bad("fault", Edge.GREATEST)
            .finds(Edge.NOTHING, "fault", 1).finds(Edge.NOTHING, "fault", 2)
            .none("fault", 0).none("fault", 3);
    }

    private static void chain() {
        Edge.of(11, "A CHAIN by a TEXT (anew: DAY 0, no TURNS, nothing MENDED; kept CHAINS go): how many PERSONS.")
            .text(3, "p12").due(1, "chain", 3).counts(1, 0, 0, 0, 0, 0, 0, 1, 0)
            .text(0, "d12s34f56l78z90x1B03x1C02").due(5, "chain", 0).counts(5, 2, 0, 0, 0, 2, 0, 2, 0)
            .days(3).due(1, "mend", 0, 1).errors(1, 0, 1).due(5, "keep", 0).due(5, "keep", 2)
            .counts(5, 3, 1, 3, 5, 2, 0, 2, 2)
            .due(5, "chain", 0).counts(5, 2, 0, 0, 0, 2, 0, 2, 0)
            .finds(Edge.NOTHING, "on", 0).finds(Edge.NOTHING, "on", 1).finds(Edge.NOTHING, "on", 2)
            .due(0, "undo", 0).bad("undo", 1).isError(0, 1, 1, 0, 3, 0).bad("error", 2, 0)
            .due(2, "stride", 0, 9).due(5, "chain", 0).due(2, "stride", 0, 2)
            .due(1, "chain", 3).counts(1, 0, 0, 0, 0, 0, 0, 2, 0).bad("person", 1, 0).bad("error", 0, 0)
            .asks(1, 0, "person", 0, 0).asks(1, 1, "person", 0, 1).asks(1, 2, "person", 0, 2);
    }

    private static void chainRefused() {
        Edge scene = Edge.of(11, "BAD; NOTHING; STATE: a FAULT.")
            .chain("d12s34x1B03").days(2).due(2, "keep", 1).due(1, "mend", 0, 1).text(2, "p00 p11 p22 x")
            .bad("chain", -1).bad("chain", 4).bad("chain", Edge.LEAST).bad("chain", Edge.GREATEST)
            .finds(Edge.NOTHING, "chain", 1).finds(Edge.NOTHING, "chain", 3)
            .due(13, "fault", 2).state("chain", 2);
        scene.text(2, "p00x0A01x").due(9, "fault", 2).state("chain", 2)
            .due(0, "text", 2, 0).state("chain", 2).due(9, "text", 2, 9).state("chain", 2)
            .counts(2, 1, 1, 2, 3, 2, 0, 2, 1);
        Edge.of(11, "(STATE behind NOTHING.)")
            .finds(Edge.NOTHING, "chain", 0).due(0, "text", 0, 0).state("chain", 0).text(0, "p00").due(1, "chain", 0);
    }
}
