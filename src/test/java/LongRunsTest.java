/**
 * Runs as long as the document lets an object be used, 512 calls on one object, each answer looked at:
 * 5 PERSONS and 12 ERRORS, up to 40 TURNS and beyond them, undone and gone on from, CHAINS kept and taken
 * up again, a CHAIN read anew among kept ones. What is drawn is compared with PlainTowns; what must come so
 * in any such run (FULL, STATE, how many TURNS, ..) is known beforehand.
 */
public final class LongRunsTest {
    private static final int RUNS = 400;
    private static final int PERSONS = 5, READ = 6, ERRORS = 12, TURNS = 40, PLACES = 3;
    private static final int BAD = TownRepeated.BAD, FULL = TownRepeated.FULL, STATE = TownRepeated.STATE,
        FINDING = TownRepeated.FINDING, NONE = TownRepeated.NONE, NOTHING = 1;

    private final Twin twin;
    private final Draw draw;

    private LongRunsTest(int run) {
        this.twin = new Twin("long run " + run);
        this.draw = new Draw(100_000 + run, twin);
    }

    public static void main(String[] args) {
        for (int run = 0; run < RUNS; run++) {
            new LongRunsTest(run).go();
        }
        Check.end();
    }

    private void go() {
        noChainYet();
        readFirst();
        errorsToTwelve();
        fours();
        asks(16);
        keepWhileTurnsGo();
        asks(16);
        beyondForty();
        undoneAndGoneOn();
        takenUpAgain();
        readAnewAmongKept();
        errorsToTwelve();
        fours();
        keptOnesAreAnew();
        turnsTo(TURNS);
        beyondForty();
        while (twin.left() > 1) {
            draw.callAny();
        }
        twin.call("digest");
        Check.due("calls that are left", twin.left(), 0);
    }

    private void asks(int many) {
        for (int n = 0; n < many; n++) {
            draw.ask();
        }
    }

    private void noChainYet() {
        twin.due(STATE, "keep", draw.upTo(2));
        twin.due(FINDING, "on", draw.upTo(2));
        twin.due(NOTHING, "finding");
        twin.due(STATE, "day");
        twin.due(0, "undo", 0);
    }

    private void readFirst() {
        draw.write(0, draw.chain(PERSONS, READ));
        twin.due(NONE, "fault", 0);
        twin.due(PERSONS, "chain", 0);
        twin.due(READ, "count", 1);
        for (int p = 0; p < PERSONS; p++) {
            twin.call("stride", p, draw.upTo(9));
        }
        twin.call("digest");
    }

    /** ERRORS told and by LOTS, till there are 12 and no more. */
    private void errorsToTwelve() {
        while (twin.known(1) < ERRORS) {
            int there = twin.known(1);
            if (draw.upTo(2) == 0) {
                twin.call("lots", 1 + draw.upTo(Math.min(2, ERRORS - there - 1)), draw.seed());
            } else {
                twin.due(there, "err", draw.told(), 1 + draw.upTo(8));
            }
        }
        twin.due(FULL, "err", draw.told(), 1 + draw.upTo(8));
        twin.due(FULL, "lots", 1, draw.seed());
        twin.due(BAD, "error", ERRORS, 0);
        twin.due(ERRORS, "count", 1);
    }

    /** Which of all 12 ERRORS there were. */
    private void fours() {
        int r = draw.upTo(5);
        draw.writeFours(r, 1 + draw.upTo(3));
        draw.askFours(r);
    }

    /** One TURN more that is none of an ERROR more: an ERROR is MENDED or is one again, a DAY goes by. */
    private void turn() {
        int today = twin.known(3);
        int mended = twin.known(2);
        if (today < 19 && draw.upTo(3) == 0) {
            twin.due(today + 1, "day");
        } else {
            int i = draw.upTo(twin.known(1) - 1);
            twin.due(twin.knownMended(i) ? mended - 1 : mended + 1, "mend", i, twin.knownMended(i) ? 0 : 1);
        }
    }

    private void turnsTo(int many) {
        while (twin.known(4) < many) {
            turn();
        }
        twin.due(many, "count", 4);
    }

    /** Each place of those kept has another number of TURNS, the last one 40. */
    private void keepWhileTurnsGo() {
        int many = twin.known(4);
        twin.due(many, "keep", 0);
        turnsTo(many + 1 + draw.upTo(TURNS - many - 2));
        twin.due(twin.known(4), "keep", 1);
        twin.due(STATE, "stride", draw.upTo(4), draw.upTo(9));
        turnsTo(TURNS);
        twin.due(TURNS, "keep", 2);
        twin.due(PLACES, "count", 8);
        twin.call("digest");
    }

    /** What would be a 41st TURN is FULL, and nothing has gone on by it. */
    private void beyondForty() {
        int i = draw.upTo(twin.known(1) - 1);
        int is = twin.knownMended(i) ? 1 : 0;
        twin.due(FULL, "mend", i, 1 - is);
        twin.due(STATE, "mend", i, is);
        twin.due(twin.known(3) == 19 ? STATE : FULL, "day");
        twin.due(FULL, "err", draw.told(), 1 + draw.upTo(8));
        twin.due(FULL, "lots", 1 + draw.upTo(9), draw.seed());
        twin.due(BAD, "undo", TURNS + 1);
        twin.due(0, "undo", TURNS);
        twin.call("digest");
    }

    /** From 40 TURNS back, on by other ones up to 40 again, and back ahead of the first. */
    private void undoneAndGoneOn() {
        int n = 1 + draw.upTo(TURNS - 2);
        twin.due(TURNS - n, "undo", n);
        twin.call("digest");
        turnsTo(Math.min(TURNS, n + 12));
        asks(4);
        int many = twin.known(4);
        int back = draw.upTo(many - 1);
        twin.due(many - back, "undo", back);
        twin.due(back, "count", 4);
        twin.call("digest");
        twin.due(back, "undo", 0);
        twin.due(READ, "count", 1);
        twin.due(0, "count", 2);
        twin.due(0, "count", 3);
        asks(4);
    }

    /** What was kept is as it was, whatever has gone on since, and again if it is taken up twice. */
    private void takenUpAgain() {
        twin.due(TURNS, "on", 2);
        twin.due(ERRORS, "count", 1);
        twin.call("digest");
        asks(3);
        twin.due(TURNS - 10, "undo", 10);
        twin.call("digest");
        for (int k = 1; k >= 0; k--) {
            int many = (int) twin.call("on", k);
            twin.due(many, "count", 4);
            twin.call("digest");
            asks(3);
            turnsTo(many + 1);
            twin.due(many + 1, "undo", 0);
            twin.due(many, "on", k);
            twin.call("digest");
        }
        turnsTo(twin.known(4) + 2);
        twin.due(twin.known(4), "keep", 0);
        twin.due(TURNS, "on", 2);
        twin.due(PLACES, "count", 8);
    }

    /** A TEXT with a FAULT leaves all as it is; one without takes the kept ones away. */
    private void readAnewAmongKept() {
        String signs = draw.chain(PERSONS, draw.upTo(1));
        draw.write(1, signs);
        twin.call("put", 1, signs.length() - 1, '?');
        twin.due(signs.length() - 1, "fault", 1);
        twin.due(STATE, "chain", 1);
        twin.due(PLACES, "count", 8);
        twin.due(TURNS, "count", 4);
        twin.due(1000 + '?', "put", 1, signs.length() - 1, signs.charAt(signs.length() - 1));
        twin.due(PERSONS, "chain", 1);
        twin.due(0, "count", 8);
        for (int what = 2; what <= 4; what++) {
            twin.due(0, "count", what);
        }
        for (int k = 0; k < PLACES; k++) {
            twin.due(FINDING, "on", k);
        }
        twin.due(NOTHING, "finding");
        twin.call("digest");
    }

    /** A place that had a CHAIN of other PERSONS has one of these now. */
    private void keptOnesAreAnew() {
        int k = draw.upTo(2);
        int many = twin.known(4);
        twin.due(many, "keep", k);
        twin.due(1, "count", 8);
        twin.due(many, "undo", 0);
        twin.call("digest");
        twin.due(FINDING, "on", (k + 1) % PLACES);
        twin.due(many, "on", k);
        twin.call("digest");
        asks(2);
    }
}
