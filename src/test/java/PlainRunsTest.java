/**
 * All promises: many runs of calls, drawn from fixed seeds, on the class and on the literal PlainTowns,
 * each as long as the document lets an object be used. Every answer is compared, and behind each call that
 * may change something the digest is looked at, and something of what is told.
 */
public final class PlainRunsTest {
    private static final int RUNS = 3000;
    /** A chain is written in at most 60 calls, a row of ten fours in 41; each is asked for in a few more. */
    private static final int LONGEST = 75;

    private final Twin twin;
    private final Draw draw;
    private final int run;

    private PlainRunsTest(int run) {
        this.run = run;
        this.twin = new Twin("run " + run);
        this.draw = new Draw(run, twin);
    }

    public static void main(String[] args) {
        for (int run = 0; run < RUNS; run++) {
            new PlainRunsTest(run).go();
        }
        Check.end();
    }

    private void go() {
        if (run % 10 != 0) {
            writeChain();
        }
        while (twin.left() > LONGEST) {
            int what = draw.upTo(39);
            if (what == 0 && twin.left() < 300) {
                writeChain();
            } else if (what < 4 && twin.known(0) > 0) {
                int r = draw.upTo(5);
                draw.writeFours(r, draw.random.nextInt(4) == 0 ? draw.upTo(10) : draw.upTo(2));
                draw.askFours(r);
            } else {
                callAndLook();
            }
        }
        while (twin.left() > 3) {
            callAndLook();
        }
        while (twin.left() > 0) {
            twin.call("digest");
        }
    }

    private void callAndLook() {
        draw.callAny();
        draw.lookAtTold();
        twin.call("digest");
    }

    /** A chain by the language, now and then with a sign that is off. */
    private void writeChain() {
        String signs = draw.chain(1 + draw.upTo(4), draw.upTo(6));
        int t = draw.upTo(3);
        draw.write(t, draw.random.nextInt(4) == 0 ? draw.spoiled(signs) : signs);
        twin.call("fault", t);
        twin.call("chain", t);
        twin.call("digest");
    }
}
