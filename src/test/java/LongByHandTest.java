/**
 * One run of just 512 calls on one object with answers found by hand: each PERSON (DEED 0, STRIDE 0) DOES as many as
 * it has ERRORS till then, as ERROR i is in TOWN 0 on DAY i, of PERSON i modulo 5, by 1. Behind call 371 the one
 * PERSON is a LEFT one that goes back by 1 each DAY.
 */
public final class LongByHandTest {
    private static final int BAD = TownRepeated.BAD, FULL = TownRepeated.FULL, STATE = TownRepeated.STATE,
        FINDING = TownRepeated.FINDING, NONE = TownRepeated.NONE, NOTHING = 1, NOUGHT = 4;
    private static final String FIRST = "p00p00p00p00p00x0A01x0B11x0C21x0D31x0E41x0F01", ANEW = "l49";
    private static final int[] ERRORS_OF = {1 + 32 + 1024, 2 + 64 + 2048, 4 + 128, 8 + 256, 16 + 512};

    private final Twin x = new Twin("the run by hand");

    public static void main(String[] args) {
        LongByHandTest run = new LongByHandTest();
        run.readAndTwelve();
        run.kept();
        run.beyondForty();
        run.undoneOneByOne();
        run.goneOnOtherwise();
        run.takenUp();
        run.whichErrors();
        run.readAnew();
        run.twelveAndFortyAnew();
        run.toTheLastCall();
        Check.due("calls that are left", run.x.left(), 0);
        Check.end();
    }

    private void counts(int... of) {
        for (int what = 0; what < of.length; what++) {
            x.due(of[what], "count", what);
        }
    }

    private void upTo(int call) {
        Check.due("calls till here", Twin.MOST_CALLS - x.left(), call);
    }

    private void readAndTwelve() {
        x.due(45, "text", 0, 45);
        for (int i = 0; i < 45; i++) {
            x.due(1032, "put", 0, i, FIRST.charAt(i));
        }
        x.due(NONE, "fault", 0);
        x.due(5, "chain", 0);
        counts(5, 6, 0, 0, 0, 0, 0, 1, 0);
        for (int i = 6; i < 12; i++) {
            x.due(i, "err", 10 * i + i % 5, 1);
        }
        x.due(FULL, "err", 0, 1);
        x.due(FULL, "lots", 1, 1);
        x.due(12, "count", 1);
        x.due(6, "count", 4);
        // In TOWN 4 four DAYS later; ERRORS 0, 5, 10 are of PERSON 0, ERRORS 1, 6, 11 of PERSON 1, ..
        int[] days = {3, 4, 9, 14, 19};
        int[][] deeds = {{NONE, 1, 2, 3, 3}, {NONE, 0, 1, 2, 3}, {NONE, 0, 1, 2, 2}, {NONE, 0, 1, 2, 2}, {NONE, 0, 1, 2, 2}};
        for (int p = 0; p < 5; p++) {
            for (int i = 0; i < days.length; i++) {
                x.due(deeds[p][i], "does", 4, days[i], p);
            }
        }
        for (int p = 0; p < 5; p++) {
            x.due(ERRORS_OF[p], "source", 0, 19, p);
        }
        upTo(97);
    }

    private void kept() {
        x.due(6, "keep", 0);
        for (int i = 0; i < 12; i++) {
            x.due(i + 1, "mend", i, 1);
        }
        x.due(18, "keep", 1);
        for (int p = 0; p < 5; p++) {
            x.due(0, "does", 4, 19, p);
        }
        x.due(0, "source", 0, 19, 0);
        for (int d = 1; d <= 19; d++) {
            x.due(d, "day");
        }
        x.due(STATE, "day");
        x.due(11, "mend", 3, 0);
        x.due(12, "mend", 3, 1);
        x.due(11, "mend", 3, 0);
        x.due(40, "keep", 2);
        upTo(141);
    }

    private void beyondForty() {
        x.due(FULL, "mend", 3, 1);
        x.due(STATE, "mend", 3, 0);
        x.due(STATE, "day");
        x.due(FULL, "err", 0, 1);
        x.due(FULL, "lots", 1, 1);
        x.due(BAD, "undo", 41);
        x.due(0, "undo", 40);
        x.due(1, "does", 0, 19, 3);
        x.due(0, "does", 0, 2, 3);
        upTo(150);
    }

    /** TURNS 0 .. 5 are ERRORS told, 6 .. 17 ERRORS MENDED, 18 .. 36 DAYS, 37 .. 39 ERROR 3 by turns. */
    private void undoneOneByOne() {
        for (int n = 39; n >= 0; n--) {
            x.due(1, "undo", n);
            x.due(n, "count", 4);
            if (n >= 37) {
                x.due(n == 38 ? 11 : 12, "count", 2);
            } else if (n >= 18) {
                x.due(n - 18, "count", 3);
            } else if (n >= 6) {
                x.due(n - 6, "count", 2);
            } else {
                x.due(6 + n, "count", 1);
            }
        }
        upTo(270);
    }

    private void goneOnOtherwise() {
        x.due(40, "on", 2);
        x.due(12, "count", 1);
        x.due(11, "count", 2);
        x.due(19, "count", 3);
        x.due(40, "count", 4);
        x.due(22, "undo", 18);
        x.due(0, "count", 3);
        x.due(12, "count", 2);
        for (int i = 0; i < 12; i++) {
            x.due(11 - i, "mend", i, 0);
        }
        for (int d = 1; d <= 10; d++) {
            x.due(d, "day");
        }
        x.due(FULL, "day");
        x.due(FULL, "mend", 0, 1);
        x.due(FULL, "err", 0, 1);
        int[] deeds = {3, 2, 2, 2, 2};
        for (int p = 0; p < 5; p++) {
            x.due(deeds[p], "does", 4, 14, p);
        }
        upTo(308);
    }

    private void takenUp() {
        x.due(18, "on", 1);
        x.due(12, "count", 2);
        x.due(0, "count", 3);
        x.due(0, "does", 0, 19, 0);
        x.due(6, "on", 0);
        x.due(3, "does", 0, 19, 0);
        x.due(0, "count", 2);
        x.due(6, "keep", 1);
        x.due(6, "on", 1);
        x.due(0, "count", 2);
        x.due(STATE, "stride", 0, 1);
        x.due(6, "undo", 0);
        x.due(0, "stride", 0, 1);
        x.due(1, "does", 0, 19, 0);
        x.due(6, "on", 0);
        x.due(3, "does", 0, 19, 0);
        x.due(6, "undo", 0);
        x.due(1, "person", 0, 2);
        x.due(0, "asked");
        x.due(6, "on", 0);
        upTo(328);
    }

    /** PERSON 0 has ERRORS 0, 5, 10; the other nine may be, or not. */
    private void whichErrors() {
        x.due(4, "row", 0, 4);
        int[] four = {0, 19, 0, 3};
        for (int i = 0; i < 4; i++) {
            x.due(1, "lay", 0, i, four[i]);
        }
        x.due(1, "fits", 0);
        x.due(512, "upper");
        x.due(1, "lower");
        x.due(ERRORS_OF[0], "asked");
        x.due(ERRORS_OF[0], "sure", 0);
        x.due(0, "asked");
        x.due(0, "lies", 0);
        x.due(NONE, "asked");
        x.due(1, "lay", 0, 3, 2);
        x.due(3, "asked");
        x.due(1, "fits", 0);
        x.due(3 * 512, "upper");
        x.due(1 + 32, "asked");
        x.due(0, "sure", 0);
        x.due(0, "asked");
        x.due(1, "lies", 0);
        x.due(0, "asked");
        x.due(1, "lay", 0, 3, 4);
        x.due(1, "fits", 0);
        x.due(0, "upper");
        x.due(NONE, "asked");
        x.due(FINDING, "sure", 0);
        x.due(NOUGHT, "finding");
        x.due(1, "odds", 0, 19, 0, 3, 6);
        x.due(1, "upper");
        x.due(8, "lower");
        x.due(1, "odds", 0, 19, 2, 1, 3);
        x.due(3, "upper");
        x.due(8, "lower");
        upTo(362);
    }

    private void readAnew() {
        x.due(3, "count", 8);
        x.due(3, "text", 1, 3);
        x.due(1032, "put", 1, 0, ANEW.charAt(0));
        x.due(1032, "put", 1, 1, ANEW.charAt(1));
        x.due(2, "fault", 1);
        x.due(STATE, "chain", 1);
        x.due(3, "count", 8);
        x.due(1032, "put", 1, 2, ANEW.charAt(2));
        x.due(1, "chain", 1);
        counts(1, 0, 0, 0, 0, 0, 1, 2, 0);
        for (int k = 0; k < 3; k++) {
            x.due(FINDING, "on", k);
        }
        x.due(3, "findings", NOTHING);
        x.due(NOTHING, "finding");
        x.due(5, "does", 1, 1, 0);
        x.due(3, "does", 1, 19, 0);
        x.due(5, "does", 0, 19, 0);
        x.due(0, "mark", 0, 3);
        x.due(1, "differ", 0, 1, 5);
        x.due(0, "differ", 0, 2, 5);
        x.due(NONE, "agree", 0, 1, 5);
        x.due(0, "agree", 0, 2, 5);
        x.due(0, "asked");
        upTo(394);
    }

    private void twelveAndFortyAnew() {
        for (int i = 0; i < 12; i++) {
            x.due(i, "err", 10 * i, 5);
        }
        x.due(FULL, "err", 0, 1);
        x.due(3, "does", 0, 11, 0);
        x.due(9, "does", 0, 10, 0);
        x.due(12, "keep", 2);
        x.due(FULL, "lots", 1, 1);
        for (int n = 0; n < 28; n++) {
            x.due(1 - n % 2, "mend", 11, 1 - n % 2);
        }
        x.due(FULL, "mend", 11, 1);
        x.due(FULL, "day");
        x.due(40, "keep", 0);
        x.due(28, "undo", 12);
        x.due(3, "does", 0, 11, 0);
        x.due(12, "on", 2);
        x.due(FINDING, "on", 1);
        x.due(40, "on", 0);
        x.due(1, "undo", 39);
        x.due(1, "count", 2);
        x.due(8, "does", 0, 11, 0);
        x.due(1, "day");
        x.due(40, "count", 4);
        x.due(FULL, "mend", 0, 1);
        x.due(40, "undo", 0);
        counts(1, 0, 0, 0, 0, 0, 1, 2, 2);
        upTo(463);
    }

    private void toTheLastCall() {
        x.due(0, "source", 0, 19, 0);
        for (int d = 0; d < 20; d++) {
            x.due((24 - d) % 10, "does", 0, d, 0);
        }
        x.due(NONE, "does", 1, 0, 0);
        for (int d = 1; d < 20; d++) {
            x.due((4 + d) % 10, "does", 1, d, 0);
        }
        x.due(40, "on", 0);
        x.due(40, "undo", 0);
        x.due(5, "next", 0, 0, 0, 9);
        x.due(1, "since", 0, 1, 0);
        x.due(19, "asked");
        x.due(1, "worst", 4);
        x.due(1, "asked");
        x.due(digestThen(), "digest");
        upTo(512);
    }

    private static long digestThen() {
        long h = 17;
        h = on(h, 1, 0, 0, 0, 0, 0, 1, 2, 2);
        h = on(h, 3, 4, 9, 4, NONE);
        h = on(h, 40, -1, 12);
        h = on(h, 4, 0, 19, 0, 4, -1, -1, -1, -1, -1);
        h = on(h, 45);
        h = on(h, FIRST.chars().toArray());
        h = on(h, 3);
        h = on(h, ANEW.chars().toArray());
        return on(h, -1, -1);
    }

    private static long on(long before, int... all) {
        long h = before;
        for (int v : all) {
            h = 31 * h + v;
        }
        return h;
    }
}
