/** The document's terms, section 2: what is done, by whom, with which errors. */
final class DeedsEdges {
    private DeedsEdges() {
    }

    static void run() {
        modulo();
        homeTown();
        lazy();
        townsBeyond();
        drifters();
        leftAndFools();
        nothing();
        errors();
        errorsOfNothing();
        differing();
        turns();
    }

    private static void modulo() {
        Edge.of(Edge.TERMS, "DEEDS go modulo 10 (9 and 1 more is 0; 0 and 1 less 9).")
            .chain("p91d90s90l00p90x0A41")
            .due(9, "does", 0, 0, 0).due(0, "does", 0, 1, 0).due(1, "does", 0, 2, 0)
            .due(0, "does", 1, 1, 1).due(1, "does", 2, 2, 1)
            .due(1, "does", 1, 3, 2).due(9, "does", 1, 1, 3).due(0, "does", 2, 2, 3).due(0, "does", 0, 0, 4);
        Edge.of(Edge.TERMS, "DEEDS go modulo 10 (9 and 1 more is 0; 0 and 1 less 9).")
            .chain("p99d00x0A09x0A09x4T15").due(7, "does", 0, 0, 0).due(8, "does", 0, 19, 0)
            .due(4, "does", 4, 18, 1).due(9, "mark", 1, 1);
    }

    private static void homeTown() {
        Edge.of(Edge.TERMS, "In TOWN 0 a PERSON DOES on DAY 0 what is told;")
            .chain("p07d17z27l37s97").due(0, "does", 0, 0, 0).due(1, "does", 0, 0, 1).due(2, "does", 0, 0, 2)
            .due(3, "does", 0, 0, 3).due(9, "does", 0, 0, 4)
            .anew().chain("f07").due(0, "does", 0, 0, 0);
        Edge each = Edge.of(Edge.TERMS, "on each later DAY what it DID the DAY ahead, and its STRIDE more;")
            .chain("p13d13l13s13p10");
        for (int d = 1; d <= 19; d++) {
            for (int p = 0; p <= 3; p++) {
                each.due((1 + 3 * d) % 10, "does", 0, d, p);
            }
            each.due(1, "does", 0, d, 4);
        }
    }

    private static void lazy() {
        Edge even = Edge.of(Edge.TERMS, "a LAZY one (FOOL, too) its STRIDE more on even DAYS alone.").chain("z13f13");
        int[] due = {1, 1, 4, 4, 7, 7, 0, 0, 3, 3, 6, 6, 9, 9, 2, 2, 5, 5, 8, 8};
        for (int d = 0; d <= 19; d++) {
            even.due(due[d], "does", 0, d, 0).due(due[d], "does", 0, d, 1);
        }
    }

    private static void townsBeyond() {
        Edge.of(Edge.TERMS, "In TOWN t (1 .. 4) on a DAY from t on it DOES what it DID in TOWN t less 1 the DAY ahead;")
            .chain("p31z71")
            .due(3, "does", 1, 1, 0).due(3, "does", 2, 2, 0).due(3, "does", 3, 3, 0).due(3, "does", 4, 4, 0)
            .due(4, "does", 1, 2, 0).due(4, "does", 4, 5, 0).due(1, "does", 1, 19, 0).due(8, "does", 4, 19, 0)
            .due(7, "does", 1, 1, 1).due(7, "does", 1, 2, 1).due(8, "does", 1, 3, 1).due(7, "does", 4, 5, 1).due(8, "does", 4, 6, 1);
    }

    private static void drifters() {
        Edge.of(Edge.TERMS, "but a DRIFTER (SPY, too) 1 more;")
            .chain("d30s30").due(3, "does", 0, 4, 0).due(4, "does", 1, 4, 0).due(5, "does", 2, 4, 0).due(6, "does", 3, 4, 0)
            .due(7, "does", 4, 4, 0).due(7, "does", 4, 19, 0)
            .due(3, "does", 0, 3, 1).due(4, "does", 1, 1, 1).due(4, "does", 1, 2, 1).due(5, "does", 2, 2, 1);
        Edge spy = Edge.of(Edge.TERMS, "a SPY 1 more besides on DAYS that 3 divides;").chain("s00");
        for (int d = 1; d <= 19; d++) {
            spy.due(d % 3 == 0 ? 2 : 1, "does", 1, d, 0);
        }
        // TOWN 4 on DAY 6 is by DAYS 3, 4, 5, 6; on DAY 5 by 2, 3, 4, 5.
        spy.due(0, "does", 0, 3, 0).due(3, "does", 2, 3, 0).due(3, "does", 2, 4, 0).due(2, "does", 2, 5, 0)
            .due(5, "does", 4, 5, 0).due(6, "does", 4, 6, 0).due(5, "does", 4, 7, 0).due(5, "does", 4, 8, 0).due(6, "does", 4, 9, 0);
    }

    private static void leftAndFools() {
        Edge left = Edge.of(Edge.TERMS, "a LEFT one 9 less that;");
        for (int v = 0; v <= 9; v++) {
            left.anew().chain("l" + v + "0").due(v, "does", 0, 7, 0).due(9 - v, "does", 1, 7, 0).due(v, "does", 2, 7, 0)
                .due(9 - v, "does", 3, 7, 0).due(v, "does", 4, 7, 0);
        }
        Edge fool = Edge.of(Edge.TERMS, "a FOOL 5, if that is 0.");
        for (int v = 0; v <= 9; v++) {
            fool.anew().chain("f" + v + "0").due(v, "does", 0, 7, 0).due(v == 0 ? 5 : v, "does", 1, 7, 0)
                .due(v == 0 ? 5 : v, "does", 4, 7, 0);
        }
        // An ERROR comes behind that: 0 by an ERROR stays 0 in that TOWN, and is 5 in the next.
        fool.anew().chain("f00x1B05x2C05").due(0, "does", 1, 1, 0).due(0, "does", 2, 2, 0).due(5, "does", 3, 3, 0);
    }

    private static void nothing() {
        Edge ahead = Edge.of(Edge.TERMS, "On DAYS ahead of t in TOWN t it DOES nothing (NONE).").chain("p50d50z50l50s50");
        for (int t = 1; t <= 4; t++) {
            for (int p = 0; p <= 4; p++) {
                ahead.none("does", t, t - 1, p).none("does", t, 0, p);
            }
            ahead.due(5, "does", t, t, 0);
        }
        ahead.due(5, "does", 0, 0, 0);
    }

    private static void errors() {
        Edge.of(Edge.TERMS, "Then by how much each ERROR tells of that TOWN, that DAY, that PERSON more, if it is not MENDED "
            + "(what is done in TOWN 0 on later DAYS, in TOWNS beyond, comes of that).")
            .chain("p00p00x0F03x2F04x2F19")
            .due(0, "does", 0, 4, 0).due(3, "does", 0, 5, 0).due(3, "does", 0, 6, 0).due(3, "does", 0, 19, 0)
            .due(0, "does", 1, 5, 0).due(3, "does", 1, 6, 0).due(0, "does", 4, 8, 0).due(3, "does", 4, 9, 0)
            .due(0, "does", 2, 4, 0).due(4, "does", 2, 5, 0).due(0, "does", 2, 6, 0).due(3, "does", 2, 7, 0)
            .due(0, "does", 1, 4, 0).due(4, "does", 3, 6, 0).due(0, "does", 3, 5, 0).due(4, "does", 4, 7, 0).due(0, "does", 4, 6, 0)
            .due(0, "does", 0, 19, 1).due(9, "does", 2, 5, 1).due(9, "does", 4, 7, 1).due(0, "does", 2, 4, 1).due(0, "does", 2, 6, 1)
            .due(1, "mend", 1, 1).due(0, "does", 2, 5, 0).due(0, "does", 4, 7, 0).due(9, "does", 2, 5, 1)
            .due(0, "mend", 1, 0).due(4, "does", 2, 5, 0).due(3, "err", 2050, 9).due(3, "does", 2, 5, 0).due(3, "does", 3, 6, 0);
        // LEFT: what comes of an ERROR is 9 less in the next TOWN. LAZY: an ERROR on an odd DAY stays.
        Edge.of(Edge.TERMS, "(what is done in TOWN 0 on later DAYS, in TOWNS beyond, comes of that).")
            .chain("l00z01x1B02x0D14").due(1, "does", 1, 1, 0).due(8, "does", 2, 2, 0).due(1, "does", 3, 3, 0)
            .due(5, "does", 0, 3, 1).due(6, "does", 0, 4, 1).due(1, "does", 0, 2, 1);
    }

    private static void errorsOfNothing() {
        Edge of = Edge.of(Edge.TERMS, "An ERROR on a DAY ahead of its TOWN's number is none of anything.");
        for (int t = 1; t <= 4; t++) {
            char day = (char) ('A' + t);
            char ahead = (char) ('A' + t - 1);
            of.anew().chain("p00x" + t + ahead + "05").none("does", t, t - 1, 0).due(0, "does", t, t, 0).due(0, "does", 4, 4, 0)
                .due(0, "source", t, t, 0).none("since", 0, t, 0).tells(1, 1, "odds", t, t, 0, 0, 6);
            of.anew().chain("p00x" + t + day + "05").due(5, "does", t, t, 0).due(5, "does", 4, 4, 0)
                .due(1, "source", t, t, 0).asks(t, 1, "since", 0, t, 0).tells(1, 2, "odds", t, t, 0, 0, 6);
        }
        of.anew().chain("p00x0A05").due(5, "does", 0, 0, 0);
    }

    private static void differing() {
        Edge.of(Edge.TERMS, "Two TOWNS DIFFER in a PERSON on a DAY (from the greater number on): what it DOES on it in the TOWN of "
            + "the greater number is not what it DID in the other one as many DAYS ahead as there are between their numbers.")
            .chain("p31d31x3F02")
            .bad("differ", 0, 1, 0).due(2, "differ", 0, 1, 1).bad("differ", 1, 4, 3).due(2, "differ", 1, 4, 4)
            .due(2, "differ", 2, 3, 4).due(3, "differ", 2, 3, 5).due(2, "differ", 2, 3, 6)
            .due(3, "differ", 0, 3, 5).due(2, "differ", 3, 4, 6).due(3, "differ", 2, 4, 6).due(2, "differ", 2, 4, 5)
            .due(2, "differ", 0, 4, 19);
    }

    private static void turns() {
        Edge.of(Edge.TERMS, "TODAY is DAY 0 at first.")
            .due(0, "count", 3).chain("p31").due(0, "count", 3).asks(1, 3, "person", 0, 3).due(1, "day");
        Edge.of(Edge.TERMS, "TURNS are ERRORS MENDED, told, DAYS that go by (40 at most).")
            .due(0, "count", 4).chain("p00x0A01").due(0, "count", 4).due(1, "mend", 0, 1).due(1, "count", 4)
            .due(0, "mend", 0, 0).due(2, "count", 4).errors(1, 0, 1).due(3, "count", 4).days(1).due(4, "count", 4)
            .due(0, "lots", 2, 1).due(6, "count", 4).due(6, "keep", 0).due(6, "count", 4).due(6, "on", 0).due(6, "count", 4)
            .mends(34, 0).due(40, "count", 4).full("mend", 0, 1).full("err", 0, 1).full("day").full("lots", 1, 1)
            .due(1, "undo", 39).due(39, "count", 4).due(0, "mend", 0, 0).due(40, "count", 4);
    }
}
