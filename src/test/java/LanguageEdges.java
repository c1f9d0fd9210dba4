/** The document's terms, section 1: rows, texts, and the small language of chains. */
final class LanguageEdges {
    private LanguageEdges() {
    }

    static void run() {
        rowsAndTexts();
        towns();
        withoutPersons();
        blanks();
        persons();
        personFigures();
        errors();
        errorFigures();
        faults();
        faultsOfTheEnd();
        kinds();
    }

    private static void rowsAndTexts() {
        Edge rows = Edge.of(Edge.TERMS, "ROWS 0 .. 5 are rows of 0 to 40 ints,").bad("row", -1, 1).bad("row", 6, 1);
        for (int r = 0; r <= 5; r++) {
            rows.due(0, "row", r, 0).due(40, "row", r, 40).bad("row", r, 41).due(1, "lay", r, 39, 100 + r);
        }
        for (int r = 0; r <= 5; r++) {
            rows.asks(1, 100 + r, "at", r, 39).asks(1, 0, "at", r, 0);
        }
        Edge texts = Edge.of(Edge.TERMS, "TEXTS 0 .. 3 rows of 0 to 60 bytes,").bad("text", -1, 1).bad("text", 4, 1);
        for (int t = 0; t <= 3; t++) {
            texts.due(0, "text", t, 0).due(60, "text", t, 60).bad("text", t, 61).due(1032, "put", t, 59, 100 + t);
        }
        for (int t = 0; t <= 3; t++) {
            texts.due(1100 + t, "put", t, 59, 0).due(1032, "put", t, 0, 0);
        }
        Edge missing = Edge.of(Edge.TERMS, "or missing (at first).").due(0, "count", 6).due(0, "count", 7);
        for (int r = 0; r <= 5; r++) {
            missing.finds(Edge.NOTHING, "at", r, 0).finds(Edge.NOTHING, "tear", r);
        }
        for (int t = 0; t <= 3; t++) {
            missing.finds(Edge.NOTHING, "put", t, 0, 0).finds(Edge.NOTHING, "fault", t);
        }
        missing.due(0, "row", 2, 0).due(1, "count", 6).due(1, "tear", 2).due(0, "count", 6);
    }

    private static void towns() {
        Edge.of(Edge.TERMS, "TOWNS are 0 .. 4, DAYS 0 .. 19, DEEDS 0 .. 9.")
            .chain("p01")
            .bad("does", -1, 9, 0).due(9, "does", 0, 9, 0).due(5, "does", 4, 9, 0).bad("does", 5, 9, 0)
            .bad("does", 0, -1, 0).due(0, "does", 0, 0, 0).due(9, "does", 0, 19, 0).bad("does", 0, 20, 0)
            .bad("next", 0, 0, 0, -1).due(0, "next", 0, 0, 0, 0).due(9, "next", 0, 0, 0, 9).bad("next", 0, 0, 0, 10);
    }

    private static void withoutPersons() {
        Edge.of(Edge.TERMS, "A CHAIN (without PERSONS at first) is a TEXT:")
            .due(0, "count", 0).bad("does", 0, 0, 0).state("keep", 0).text(0, "p00").due(0, "count", 0)
            .due(1, "chain", 0).due(1, "count", 0).due(0, "does", 0, 0, 0).due(0, "keep", 0);
    }

    private static void blanks() {
        Edge.of(Edge.TERMS, "blanks (32) ahead, between, behind as many as wanted,")
            .reads("p00").reads(" p00").reads("p00 ").reads(" ".repeat(57) + "p00").reads("p00" + " ".repeat(57))
            .reads("p00d11").reads("p00 d11").reads("p00" + " ".repeat(54) + "d11")
            .reads("p00x0A01").reads("p00 x0A01x0A02").reads("p00x0A01     x0A02")
            .reads("p00" + " ".repeat(52) + "x0A01").reads("   p00   d11   x0A01   x0A02   ")
            .faults(0, "\tp00").faults(3, "p00\t").faults(3, "p00!d11").faults(3, "p00\u001fd11").faults(8, "p00x0A01\n")
            .faults(3, "p00\0").faults(3, "p00\u00a0");
        Edge.of(Edge.TERMS, "none within items.")
            .reads("p12").faults(1, "p 12").faults(2, "p1 2").faults(1, "p  12")
            .reads("p12x3D04").faults(4, "p12x 3D04").faults(5, "p12x3 D04").faults(6, "p12x3D 04").faults(7, "p12x3D0 4");
    }

    private static void persons() {
        Edge.of(Edge.TERMS, "First PERSONS (1 to 5; 0, 1, .. as they come):")
            .faults(0, "").faults(3, "   ").reads("p00").reads("p00p00p00p00p00").faults(15, "p00p00p00p00p00p00")
            .faults(17, "p00 p00p00 p00p00p00")
            .anew().chain("p12d34z56l78s90").due(5, "count", 0).bad("person", -1, 0).bad("person", 5, 0)
            .asks(1, 0, "person", 0, 0).asks(1, 1, "person", 0, 1).asks(1, 2, "person", 0, 2)
            .asks(1, 1, "person", 1, 0).asks(1, 3, "person", 1, 1).asks(1, 4, "person", 1, 2)
            .asks(1, 4, "person", 4, 0).asks(1, 9, "person", 4, 1).asks(1, 0, "person", 4, 2);
    }

    private static void personFigures() {
        Edge first = Edge.of(Edge.TERMS, "a letter, the DEED of DAY 0 (one figure 0 .. 9),");
        Edge stride = Edge.of(Edge.TERMS, "the STRIDE (one figure 0 .. 9).");
        for (int v = 0; v <= 9; v++) {
            first.anew().chain("p" + v + "0").asks(1, v, "person", 0, 1).due(v, "does", 0, 0, 0);
            stride.anew().chain("p0" + v).asks(1, v, "person", 0, 2).due(v, "does", 0, 1, 0);
        }
        first.faults(1, "p/0").faults(1, "p:0").faults(1, "p-0").faults(1, "pA0").faults(1, "p\u00b00")
            .faults(3, "p120").faults(1, "pp0");
        stride.faults(2, "p0/").faults(2, "p0:").faults(2, "p0-").faults(2, "p0A").faults(2, "p0\u00b0")
            .faults(2, "p0p00").faults(3, "p000");
    }

    private static void errors() {
        Edge.of(Edge.TERMS, "Then ERRORS (6 at most; 0, 1, .. as they come):")
            .reads("p00").reads("p00x0A01").reads("p00x0A01x0A01x0A01x0A01x0A01x0A01")
            .faults(33, "p00x0A01x0A01x0A01x0A01x0A01x0A01x0A01")
            .anew().chain("p00p00x1B02x3D14x0A01x0A01x0A01x4T19").due(6, "count", 1)
            .bad("error", -1, 0).bad("error", 6, 0).isError(0, 1, 1, 0, 2, 0).isError(1, 3, 3, 1, 4, 0).isError(5, 4, 19, 1, 9, 0);
    }

    private static void errorFigures() {
        Edge town = Edge.of(Edge.TERMS, "x (120), the TOWN (0 .. 4),");
        for (int t = 0; t <= 4; t++) {
            town.anew().chain("p00x" + t + "K01").asks(1, t, "error", 0, 0);
        }
        town.faults(4, "p00x/K01").faults(4, "p00x5K01").faults(4, "p00x9K01").faults(4, "p00xAK01")
            .faults(3, "p00X0K01").faults(3, "p00w0K01").faults(3, "p00y0K01");
        Edge day = Edge.of(Edge.TERMS, "the DAY (a letter: A (65) 0, B 1, .. T 19),");
        for (int d = 0; d <= 19; d++) {
            day.anew().chain("p00x0" + (char) ('A' + d) + "01").asks(1, d, "error", 0, 1)
                .due(1, "does", 0, d, 0).due(d == 0 ? 1 : 0, "does", 0, 0, 0);
        }
        day.faults(5, "p00x0@01").faults(5, "p00x0U01").faults(5, "p00x0a01").faults(5, "p00x0101").faults(5, "p00x0\u00c101");
        Edge.of(Edge.TERMS, "the PERSON,")
            .reads("p00x0A01").faults(6, "p00x0A11").faults(6, "p00x0A/1")
            .reads("p00p00p00p00x0A31").faults(15, "p00p00p00p00x0A41")
            .reads("p00p00p00p00p00x0A41").faults(18, "p00p00p00p00p00x0A51").faults(18, "p00p00p00p00p00x0AA1")
            .anew().chain("p00p00x0A14").asks(1, 1, "error", 0, 2).due(0, "does", 0, 0, 0).due(4, "does", 0, 0, 1);
        Edge by = Edge.of(Edge.TERMS, "by how much (1 .. 9; figures but the DAY).");
        for (int v = 1; v <= 9; v++) {
            by.anew().chain("p00x0A0" + v).asks(1, v, "error", 0, 3).due(v, "does", 0, 0, 0);
        }
        by.faults(7, "p00x0A00").faults(7, "p00x0A0:").faults(7, "p00x0A0/").faults(7, "p00x0A0A").faults(8, "p00x0A010");
    }

    private static void faults() {
        Edge.of(Edge.TERMS, "A FAULT is the first place at which it can't go on so")
            .faults(1, "pqqxxx").faults(0, "qpp").faults(4, "p00 q00 q00").faults(5, "p00x0aaa").faults(2, "  qp0 x")
            .faults(9, "p00 d00 xUA01").faults(10, "p00 d00 x0U01").faults(11, "p00 d00 x0A21").faults(12, "p00 d00 x0A10")
            .faults(15, "p00 d00 x0A11 xA").faults(6, "p00  dx0").faults(7, "p00  d0x");
        Edge.of(Edge.TERMS, "(a letter, a figure that is none such,")
            .faults(0, "q00").faults(3, "p00a").faults(0, "000").faults(1, "pa0").faults(2, "p0a").faults(4, "p00x50")
            .faults(5, "p00x0u").faults(7, "p00x0A0x");
        Edge.of(Edge.TERMS, "a PERSON that there is not,")
            .faults(6, "p00x0A11").faults(9, "p00p00x0A21").reads("p00p00x0A11").faults(6, "p00x0A91");
        Edge.of(Edge.TERMS, "a sixth PERSON,")
            .faults(15, "p00p00p00p00p00p00").faults(16, "p00p00p00p00p00 p").faults(15, "p00p00p00p00p00f")
            .faults(15, "p00p00p00p00p00p0").reads("p00p00p00p00p00");
        Edge.of(Edge.TERMS, "a seventh ERROR,")
            .faults(33, "p00x0A01x0A01x0A01x0A01x0A01x0A01x0A01").faults(34, "p00x0A01x0A01x0A01x0A01x0A01x0A01 x")
            .faults(33, "p00x0A01x0A01x0A01x0A01x0A01x0A01x9").reads("p00x0A01x0A01x0A01x0A01x0A01x0A01");
        Edge.of(Edge.TERMS, "a PERSON behind an ERROR,")
            .faults(8, "p00x0A01p00").faults(9, "p00x0A01 p").faults(8, "p00x0A01d").reads("p00d00x0A01");
        Edge.of(Edge.TERMS, "an ERROR ahead of PERSONS: its place;")
            .faults(0, "x0A01p00").faults(2, "  x").faults(0, "x").faults(1, " x9");
    }

    private static void faultsOfTheEnd() {
        Edge.of(Edge.TERMS, "the TEXT's size, if its end comes too early,")
            .faults(1, "p").faults(2, "p0").reads("p00").faults(4, "p00d").faults(5, "p00d0").faults(5, "   p0")
            .faults(4, "p00x").faults(5, "p00x0").faults(6, "p00x0A").faults(7, "p00x0A0").reads("p00x0A01")
            .faults(60, " ".repeat(59) + "p").faults(60, " ".repeat(58) + "p0").reads(" ".repeat(57) + "p00")
            .faults(60, "p00" + " ".repeat(56) + "x").faults(60, "p00" + " ".repeat(53) + "x0A0");
        Edge.of(Edge.TERMS, "or there are blanks alone).")
            .faults(0, "").faults(1, " ").faults(2, "  ").faults(59, " ".repeat(59)).faults(60, " ".repeat(60));
    }

    private static void kinds() {
        Edge kinds = Edge.of(Edge.TERMS, "KINDS of PERSONS and letters: 0 PERSON (p, 112), 1 DRIFTER (d, 100; a PERSON), "
            + "2 LAZY (z, 122; a PERSON), 3 LEFT (l, 108; a PERSON), 4 SPY (s, 115; a DRIFTER), 5 FOOL (f, 102; a LAZY).");
        int[] letters = {112, 100, 122, 108, 115, 102};
        boolean[][] is = {{true, false, false, false, false, false}, {true, true, false, false, false, false},
            {true, false, true, false, false, false}, {true, false, false, true, false, false},
            {true, true, false, false, true, false}, {true, false, true, false, false, true}};
        for (int kind = 0; kind <= 5; kind++) {
            Edge one = kinds.anew().chain((char) letters[kind] + "00").asks(1, kind, "person", 0, 0);
            for (int other = 1; other <= 5; other++) {
                if (!is[kind][other]) {
                    one.finds(Edge.UNLIKE, "mark", 0, other);
                }
            }
            one.due(is[kind][1] ? 1 : 0, "count", 5);
        }
        kinds.anew().chain("d00z00l00s00").due(4, "mark", 0, 1).due(19, "mark", 1, 2).due(2, "mark", 2, 3)
            .due(3, "mark", 3, 4).due(5, "mark", 3, 1);
        kinds.anew().chain("f00").due(19, "mark", 0, 2).due(20, "mark", 0, 5);
        for (int sign = 0; sign <= 255; sign++) {
            if ("pdzlsf ".indexOf(sign) < 0) {
                kinds.faults(0, (char) sign + "00");
            }
        }
    }
}
