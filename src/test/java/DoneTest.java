/** Promises 22 to 27: does, differ, since, worst, source, together. */
public final class DoneTest {
    public static void main(String[] args) {
        doesByKind();
        doesByErrors();
        doesRefused();
        differ();
        since();
        worst();
        source();
        together();
        Check.end();
    }

    private static void doesByKind() {
        for (int t = 0; t < 5; t++) {
            TownRepeated x = Check.chainOf("p31d02z73l94s51");
            TownRepeated fool = Check.chainOf("f05f91");
            for (int d = 0; d < 20; d++) {
                String where = " in TOWN " + t + " on DAY " + d;
                int ago = d - t;
                int home = 9 + 4 * ago;
                int threes = Math.floorDiv(d, 3) - Math.floorDiv(ago, 3);
                int lazy = 9 + Math.floorDiv(ago, 2);
                boolean not = ago < 0;
                Check.due("a PERSON" + where, x.does(t, d, 0), not ? -9 : (3 + ago) % 10);
                Check.due("a DRIFTER" + where, x.does(t, d, 1), not ? -9 : (2 * ago + t) % 10);
                Check.due("a LAZY one" + where, x.does(t, d, 2), not ? -9 : (7 + 3 * (ago / 2)) % 10);
                Check.due("a LEFT one" + where, x.does(t, d, 3), not ? -9 : t % 2 == 0 ? home % 10 : 9 - home % 10);
                Check.due("a SPY" + where, x.does(t, d, 4), not ? -9 : (5 + ago + t + threes) % 10);
                Check.due("a FOOL" + where, fool.does(t, d, 0), not ? -9 : t > 0 ? 5 : d / 2 % 2 * 5);
                int late = t > 0 && lazy % 10 == 0 ? 5 : lazy % 10;
                Check.due("another FOOL" + where, fool.does(t, d, 1), not ? -9 : late);
            }
        }
    }

    private static void doesByErrors() {
        TownRepeated x = Check.chainOf("p00l00f50x0C03x1C02x3B09x1B14x1B25");
        Check.due("ahead of an ERROR", x.does(0, 1, 0), 0);
        Check.due("on its DAY", x.does(0, 2, 0), 3);
        Check.due("on later DAYS", x.does(0, 19, 0), 3);
        Check.due("in TOWNS beyond, ahead of it", x.does(4, 5, 0), 2);
        Check.due("in TOWNS beyond", x.does(4, 6, 0), 3);
        Check.due("an ERROR in TOWN 1 on its DAY", x.does(1, 2, 0), 2);
        Check.due("not the DAY ahead", x.does(1, 1, 0), 0);
        Check.due("not in TOWN 1 on later DAYS", x.does(1, 3, 0), 3);
        Check.due("in TOWN 2 the DAY after", x.does(2, 3, 0), 2);
        Check.due("an ERROR ahead of its TOWN's number", x.does(3, 1, 0), -9);
        Check.due("is none of anything", x.does(4, 4, 0), 0);
        Check.due("of a LEFT one", x.does(1, 1, 1), 3);
        Check.due("of a LEFT one in TOWN 2", x.does(2, 2, 1), 6);
        Check.due("of a LEFT one in TOWN 3", x.does(3, 3, 1), 3);
        Check.due("of a FOOL: an ERROR is not set right", x.does(1, 1, 2), 0);
        Check.due("of a FOOL in TOWN 2", x.does(2, 2, 2), 5);
        x.mend(0, 1);
        Check.due("MENDED", x.does(0, 19, 0), 0);
        Check.due("the other is not", x.does(1, 2, 0), 2);
        x.err(1020, 9);
        Check.due("two ERRORS at once", x.does(1, 2, 0), 1);
        TownRepeated lazy = Check.chainOf("z01x0D04");
        Check.due("an ERROR of a LAZY one on an odd DAY", lazy.does(0, 3, 0), 5);
        Check.due("and the DAY after", lazy.does(0, 4, 0), 6);
    }

    private static void doesRefused() {
        TownRepeated x = Check.chainOf("p00p00");
        int[][] bad = {{-1, 0, 0}, {5, 0, 0}, {0, -1, 0}, {0, 20, 0}, {0, 0, -1}, {0, 0, 2}};
        for (int[] b : bad) {
            Check.due("does BAD", x.does(b[0], b[1], b[2]), TownRepeated.BAD);
        }
        Check.due("without PERSONS", new TownRepeated().does(0, 0, 0), TownRepeated.BAD);
    }

    private static void differ() {
        TownRepeated x = Check.chainOf("p00d00l00s00f00x2E01");
        Check.due("differ(0, 1, 1)", x.differ(0, 1, 1), 2 + 4 + 8 + 16);
        Check.due("differ(0, 2, 2)", x.differ(0, 2, 2), 2 + 8 + 16);
        Check.due("differ(1, 2, 3)", x.differ(1, 2, 3), 2 + 4 + 8);
        Check.due("differ(1, 2, 4)", x.differ(1, 2, 4), 1 + 2 + 4 + 8);
        Check.due("differ(0, 2, 4)", x.differ(0, 2, 4), 1 + 2 + 8 + 16);
        Check.due("differ(0, 4, 6)", x.differ(0, 4, 6), 1 + 2 + 8 + 16);
        Check.due("differ(0, 4, 19)", x.differ(0, 4, 19), 2 + 8 + 16);
        Check.due("differ(3, 4, 4)", x.differ(3, 4, 4), 2 + 4 + 8);
        int[][] bad = {{-1, 1, 5}, {0, 5, 5}, {1, 1, 5}, {2, 1, 5}, {0, 2, 1}, {0, 4, 3}, {0, 1, 20}, {0, 1, -1}};
        for (int[] b : bad) {
            Check.due("differ BAD", x.differ(b[0], b[1], b[2]), TownRepeated.BAD);
        }
        Check.due("without PERSONS", new TownRepeated().differ(0, 4, 19), 0);
        TownRepeated going = Check.chainOf("p01z07");
        Check.due("as many DAYS ahead as between", going.differ(0, 3, 10), 0);
    }

    private static void since() {
        TownRepeated x = Check.chainOf("p00d00p00x1D03x1F04x0C25");
        Check.dueAsked("since(0, 1, 0)", x, x.since(0, 1, 0), 3, 2);
        Check.dueAsked("since(0, 4, 0)", x, x.since(0, 4, 0), 6, 2);
        x.mend(0, 1);
        Check.dueAsked("once: since(0, 2, 0)", x, x.since(0, 2, 0), 6, 1);
        x.mend(0, 0);
        x.since(0, 4, 0);
        Check.due("never: since(1, 4, 0)", x.since(1, 4, 0), TownRepeated.NONE);
        Check.due("never: since(0, 4, 2)", x.since(0, 4, 2), TownRepeated.NONE);
        Check.due("asked() as ahead", x.asked(), 2);
        Check.dueAsked("since(0, 1, 1)", x, x.since(0, 1, 1), 1, 19);
        Check.dueAsked("since(2, 4, 1)", x, x.since(2, 4, 1), 4, 16);
        int[][] bad = {{-1, 1, 0}, {0, 5, 0}, {1, 1, 0}, {2, 1, 0}, {0, 1, 3}, {0, 1, -1}};
        for (int[] b : bad) {
            Check.due("since BAD", x.since(b[0], b[1], b[2]), TownRepeated.BAD);
        }
        Check.due("asked() as told", x.asked(), 16);
    }

    private static void worst() {
        TownRepeated x = Check.chainOf("p00p00p00x2E01x3E01x3E11x4T01x1T11");
        Check.dueAsked("worst(4)", x, x.worst(4), 3, 2);
        Check.dueAsked("worst(5)", x, x.worst(5), 1, 0);
        Check.dueAsked("worst(19): the first", x, x.worst(19), 1, 1);
        x.mend(4, 1);
        Check.dueAsked("worst(19) then", x, x.worst(19), 4, 1);
        Check.due("worst(3)", x.worst(3), TownRepeated.BAD);
        Check.due("worst(20)", x.worst(20), TownRepeated.BAD);
        Check.due("worst(-1)", x.worst(-1), TownRepeated.BAD);
        Check.due("without PERSONS", new TownRepeated().worst(4), TownRepeated.STATE);
        Check.due("BAD ahead of STATE", new TownRepeated().worst(3), TownRepeated.BAD);
        Check.due("asked() as told", x.asked(), 1);
    }

    private static void source() {
        TownRepeated x = Check.chainOf("p00f50x0A01x0B09x1C05x2D05x1B15");
        Check.due("source(0, 0, 0)", x.source(0, 0, 0), 1);
        Check.due("source(0, 1, 0)", x.source(0, 1, 0), 3);
        Check.due("source(1, 1, 0)", x.source(1, 1, 0), 1);
        Check.due("source(1, 2, 0)", x.source(1, 2, 0), 7);
        Check.due("source(2, 3, 0)", x.source(2, 3, 0), 15);
        Check.due("source(4, 5, 0)", x.source(4, 5, 0), 15);
        Check.due("source(4, 6, 0)", x.source(4, 6, 0), 3);
        Check.due("source(1, 1, 1)", x.source(1, 1, 1), 16);
        Check.due("a FOOL sets it right", x.source(2, 2, 1), 0);
        x.mend(2, 1);
        Check.due("what is MENDED is no source", x.source(4, 5, 0), 11);
        int[][] bad = {{-1, 0, 0}, {5, 5, 0}, {1, 0, 0}, {4, 3, 0}, {0, 20, 0}, {0, -1, 0}, {0, 0, 2}, {0, 0, -1}};
        for (int[] b : bad) {
            Check.due("source BAD", x.source(b[0], b[1], b[2]), TownRepeated.BAD);
        }
    }

    private static void together() {
        TownRepeated x = Check.chainOf("p01p10p00p90");
        Check.dueAsked("together(0, 0, 1)", x, x.together(0, 0, 1), 2, 1);
        Check.dueAsked("together(1, 1, 0)", x, x.together(1, 1, 0), 2, 2);
        Check.dueAsked("together(0, 1, 2)", x, x.together(0, 1, 2), 0, TownRepeated.NONE);
        Check.dueAsked("together(0, 0, 3)", x, x.together(0, 0, 3), 2, 9);
        Check.dueAsked("together(4, 0, 3)", x, x.together(4, 0, 3), 1, 13);
        TownRepeated same = Check.chainOf("p00z00");
        Check.dueAsked("together(0, ..)", same, same.together(0, 0, 1), 20, 0);
        Check.dueAsked("together(4, ..)", same, same.together(4, 0, 1), 16, 4);
        int[][] bad = {{-1, 0, 1}, {5, 0, 1}, {0, 0, 0}, {0, 2, 0}, {0, 0, 2}, {0, -1, 0}, {0, 0, -1}};
        for (int[] b : bad) {
            Check.due("together BAD", same.together(b[0], b[1], b[2]), TownRepeated.BAD);
        }
        Check.due("asked() as told", same.asked(), 4);
    }
}
