/** Promises 35 and 36: odds, lots. */
final class ChancesEdges {
    private ChancesEdges() {
    }

    static void run() {
        odds();
        oddsRefused();
        lots();
        lotsNumbers();
        lotsRefused();
        lotsFull();
    }

    private static void odds() {
        Edge of = Edge.of(35, "Chances that a PERSON DOES a DEED in a TOWN on a DAY, if each ERROR that is not MENDED happens by "
            + "h (0 .. 12) of 12, each by itself, told by upper(), lower(): 1.");
        Edge one = of.anew().chain("p00p00x0A05");
        int[] upper = {0, 1, 1, 1, 1, 5, 1, 7, 2, 3, 5, 11, 1};
        int[] lower = {1, 12, 6, 4, 3, 12, 2, 12, 3, 4, 6, 12, 1};
        for (int h = 0; h <= 12; h++) {
            one.tells(upper[h], lower[h], "odds", 0, 0, 0, 5, h);
            one.tells(upper[12 - h], lower[12 - h], "odds", 4, 19, 0, 0, h).tells(1, 1, "odds", 0, 0, 1, 0, h);
            one.tells(0, 1, "odds", 0, 0, 0, 1, h).tells(0, 1, "odds", 4, 3, 0, 0, h);
        }
        one.due(1, "mend", 0, 1).tells(1, 1, "odds", 0, 0, 0, 0, 6).tells(0, 1, "odds", 0, 0, 0, 5, 12)
            .due(0, "mend", 0, 0).tells(1, 2, "odds", 0, 0, 0, 0, 6);
        of.anew().chain("p00x0A01x0A02x0A03").tells(2, 9, "odds", 0, 0, 0, 3, 4).tells(8, 27, "odds", 0, 0, 0, 0, 4)
            .tells(1, 27, "odds", 0, 0, 0, 6, 4).tells(0, 1, "odds", 0, 0, 0, 7, 4).tells(1, 1, "odds", 0, 0, 0, 6, 12)
            .tells(1, 1, "odds", 0, 0, 0, 0, 0).bad("odds", 0, 0, 0, 0, -1).bad("odds", 0, 0, 0, 0, 13);
        // Two of twelve (66 times 11 to the 10th) or all twelve, of 12 to the 12th; none or ten.
        of.anew().chain("p00").errors(12, 0, 1).tells(1711870023667L, 8916100448256L, "odds", 0, 0, 0, 2, 1)
            .tells(67, 4096, "odds", 4, 19, 0, 2, 6).tells(1, 1, "odds", 0, 0, 0, 2, 12).tells(0, 1, "odds", 0, 0, 0, 0, 12)
            .tells(3138428376721L + 66 * 121, 8916100448256L, "odds", 0, 0, 0, 0, 1);
        // ERROR 0 is on the way of TOWN 2 on DAY 5, 1 from DAY 3 in TOWN 0 on, 2 on that of TOWN 3 on DAY 10.
        of.anew().chain("p00p00x2F03x0D04x3K02").tells(1, 16, "odds", 2, 5, 0, 7, 3).tells(3, 16, "odds", 2, 5, 0, 3, 3)
            .tells(9, 16, "odds", 2, 5, 0, 0, 3).tells(1, 1, "odds", 2, 4, 0, 0, 3).tells(1, 4, "odds", 2, 6, 0, 4, 3)
            .tells(1, 16, "odds", 4, 11, 0, 6, 3).tells(3, 4, "odds", 3, 11, 0, 0, 3).tells(1, 1, "odds", 4, 11, 1, 0, 3);
        // Whether the first happens or not, a FOOL DOES 5 in TOWN 2.
        of.anew().chain("f50x1B05x2C05").tells(1, 4, "odds", 2, 2, 0, 5, 9).tells(3, 4, "odds", 2, 2, 0, 0, 9);
    }

    private static void oddsRefused() {
        Edge.of(35, "BAD.").bad("odds", 0, 0, 0, 0, 0).chain("p00p00x0A01").tells(1, 2, "odds", 0, 0, 0, 0, 6)
            .bad("odds", -1, 9, 0, 0, 6).bad("odds", 5, 9, 0, 0, 6).bad("odds", 0, -1, 0, 0, 6).bad("odds", 0, 20, 0, 0, 6)
            .bad("odds", 0, 0, -1, 0, 6).bad("odds", 0, 0, 2, 0, 6).bad("odds", 0, 0, 0, -1, 6).bad("odds", 0, 0, 0, 10, 6)
            .bad("odds", 4, 3, 0, -9, 6).bad("odds", 0, 0, 0, 0, -1).bad("odds", 0, 0, 0, 0, 13)
            .bad("odds", Edge.LEAST, 0, 0, 0, 6).bad("odds", 0, Edge.GREATEST, 0, 0, 6).bad("odds", 0, 0, Edge.GREATEST, 0, 6)
            .bad("odds", 0, 0, 0, Edge.LEAST, 6).bad("odds", 0, 0, 0, 0, Edge.LEAST).bad("odds", 0, 0, 0, 0, Edge.GREATEST)
            .tells(1, 1, "odds", 4, 19, 1, 0, 12);
    }

    private static void lots() {
        // By seed 1 the 9th is TOWN 1, DAY 16, PERSON 0, by 4: the one on the way of TOWN 4 on DAY 19.
        Edge of = Edge.of(36, "n (1 .. 10) ERRORS truly by LOTS of a seed:");
        of.anew().chain("p00").bad("lots", 0, 1).due(0, "lots", 1, 1).due(1, "count", 1).due(1, "count", 4)
            .due(1, "undo", 0).due(0, "count", 1).bad("lots", 11, 1);
        of.anew().chain("p00p00").due(1, "lots", 10, 1).due(10, "count", 1).due(10, "count", 4).due(0, "count", 2)
            .due(0, "count", 3).due(1, "undo", 9).due(9, "count", 1);
        Edge how = Edge.of(36, "in how many PERSONS TOWNS 0 and 4 DIFFER on DAY 19 then.");
        how.anew().chain("d00d00p00d00l00").due(3, "lots", 1, 1);
        how.anew().chain("d00d00d00d00d00").due(5, "lots", 1, 1);
        // 337897 makes TOWN 2, DAY 17, PERSON 4: on the way of TOWN 4 on DAY 19.
        how.anew().chain("p00p00p00p00l00").due(1, "lots", 1, 7).isError(0, 2, 17, 4, 2, 0).due(16, "differ", 0, 4, 19);
        how.anew().chain("p00").due(1, "lots", 1, 7).isError(0, 2, 17, 0, 2, 0).due(1, "mend", 0, 1).due(1, "lots", 1, 7);
    }

    private static void lotsNumbers() {
        String sentence = "a number comes from the one ahead by 48271 times it modulo 2147483647, the first from the seed "
            + "(1 .. 2147483646): TOWN it modulo 5, DAY it by 8, cut, modulo 20, PERSON it by 256, cut, modulo how many there are, "
            + "by how much it by 4096, cut, modulo 9, and 1:";
        Edge of = Edge.of(36, sentence);
        long[] seeds = {1, 2, 44488, 44489, 77, 1073741824, 2147483645L, 2147483646L};
        for (long seed : seeds) {
            for (int persons = 1; persons <= 5; persons += 2) {
                Edge x = of.anew().chain("p00".repeat(persons)).due(1, "count", 7);
                java.math.BigInteger lot = java.math.BigInteger.valueOf(seed);
                int[] made = new int[5 * 3];
                for (int i = 0; i < 3; i++) {
                    lot = lot.multiply(java.math.BigInteger.valueOf(48271)).mod(java.math.BigInteger.valueOf(2147483647));
                    long v = lot.longValueExact();
                    int[] error = {(int) (v % 5), (int) (v / 8 % 20), (int) (v / 256 % persons), (int) (v / 4096 % 9) + 1, 0};
                    System.arraycopy(error, 0, made, 5 * i, 5);
                }
                x.due(differing(made), "lots", 3, (int) seed);
                for (int i = 0; i < 3; i++) {
                    x.isError(i, java.util.Arrays.copyOfRange(made, 5 * i, 5 * i + 5));
                }
            }
        }
        // By hand: 48271, 182605794; 2147483646 makes 2147435376.
        of.anew().chain("p00p00").due(0, "lots", 2, 1).isError(0, 1, 13, 0, 3, 0).isError(1, 4, 4, 1, 5, 0)
            .due(0, "lots", 1, 2147483646).isError(2, 1, 2, 1, 9, 0);
        of.anew().chain("p00").bad("lots", 1, 0).bad("lots", 1, 2147483647).due(0, "lots", 1, 1).due(0, "lots", 1, 2147483646);
    }

    /** In how many plain PERSONS what is more on the way to TOWN 4 on DAY 19, TOWN 0 aside, is not 0. */
    private static int differing(int[] made) {
        int[] more = new int[5];
        for (int i = 0; i < made.length; i += 5) {
            if (made[i] > 0 && made[i + 1] == 15 + made[i]) {
                more[made[i + 2]] += made[i + 3];
            }
        }
        int many = 0;
        for (int m : more) {
            many += m % 10 == 0 ? 0 : 1;
        }
        return many;
    }

    private static void lotsRefused() {
        Edge.of(36, "BAD;").bad("lots", 0, 1).bad("lots", 1, 0).chain("p00")
            .bad("lots", 0, 1).bad("lots", -1, 1).bad("lots", 11, 1).bad("lots", Edge.LEAST, 1).bad("lots", Edge.GREATEST, 1)
            .bad("lots", 1, 0).bad("lots", 1, -1).bad("lots", 1, Edge.LEAST).bad("lots", 1, Edge.GREATEST)
            .due(1, "lots", 10, 1).errors(2, 0, 1).bad("lots", 1, 0).bad("lots", 11, 1).full("lots", 1, 1);
        Edge.of(36, "STATE: no PERSONS;").state("lots", 1, 1).state("lots", 10, 2147483646).text(0, "p00").state("lots", 1, 1)
            .due(1, "chain", 0).due(0, "lots", 1, 1);
    }

    private static void lotsFull() {
        Edge.of(36, "FULL: with n more there would be more than 12 ERRORS,")
            .chain("p00x0A01x0A01x0A01").full("lots", 10, 1).due(3, "count", 1).due(1, "lots", 9, 1).due(12, "count", 1)
            .full("lots", 1, 1).due(1, "mend", 0, 1).full("lots", 1, 1).due(2, "undo", 8).full("lots", 2, 1).due(0, "lots", 1, 1);
        Edge.of(36, "or 40 TURNS.")
            .chain("p00x0A01").mends(30, 0).due(1, "lots", 10, 1).due(40, "count", 4).full("lots", 1, 1).due(10, "undo", 30)
            .mends(1, 0).full("lots", 10, 1).due(1, "count", 1).due(1, "lots", 9, 1).due(40, "count", 4).full("lots", 1, 1);
        Edge.of(36, "(FULL last.)")
            .chain("p00x0A01").mends(40, 0).full("lots", 1, 1).bad("lots", 0, 1).bad("lots", 11, 1).bad("lots", 1, 0)
            .bad("lots", 1, 2147483647);
    }
}
