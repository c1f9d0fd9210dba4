/** Promises 8 to 11: text, put, fault, chain. */
public final class TextsTest {
    private static final int NOTHING = 1, BEYOND = 2, SIZE = 5;

    public static void main(String[] args) {
        text();
        put();
        noFault();
        faultInPersons();
        faultInErrors();
        faultRefused();
        chain();
        chainAnew();
        chainRefused();
        Check.end();
    }

    private static void text() {
        TownRepeated x = new TownRepeated();
        Check.due("text(0, 60)", x.text(0, 60), 60);
        Check.due("text(3, 0)", x.text(3, 0), 0);
        Check.due("count(7)", x.count(7), 2);
        Check.due("put(0, 59, 7)", x.put(0, 59, 7), 1032);
        Check.due("put(0, 59, 7) again", x.put(0, 59, 7), 1007);
        Check.due("text(0, 60) anew", x.text(0, 60), 60);
        Check.due("put(0, 59, 7) anew", x.put(0, 59, 7), 1032);
        Check.due("text(4, 1)", x.text(4, 1), TownRepeated.BAD);
        Check.due("text(-1, 1)", x.text(-1, 1), TownRepeated.BAD);
        Check.due("text(-1, -1)", x.text(-1, -1), TownRepeated.BAD);
        Check.due("text(0, 61)", x.text(0, 61), TownRepeated.BAD);
        Check.dueFinding("text(1, -1)", x, 0, x.text(1, -1), SIZE);
        Check.dueFinding("text(1, least)", x, 1, x.text(1, Integer.MIN_VALUE), SIZE);
        Check.due("count(7) as ahead", x.count(7), 2);
    }

    private static void put() {
        TownRepeated x = new TownRepeated();
        x.text(1, 2);
        int[] puts = {127, 128, 255, 256, 511, -1, -129, Integer.MIN_VALUE, Integer.MAX_VALUE};
        int[] cut = {127, -128, -1, 0, -1, -1, 127, 0, -1};
        for (int i = 0; i < puts.length; i++) {
            x.put(1, 1, puts[i]);
            Check.due("a byte of " + puts[i], x.put(1, 1, 0), 1000 + cut[i]);
        }
        Check.due("put(4, 0, 0)", x.put(4, 0, 0), TownRepeated.BAD);
        Check.due("put(-1, 0, 0)", x.put(-1, 0, 0), TownRepeated.BAD);
        Check.dueFinding("put(0, 9, 0)", x, 0, x.put(0, 9, 0), NOTHING);
        Check.dueFinding("put(1, 2, 0)", x, 0, x.put(1, 2, 0), BEYOND);
        Check.dueFinding("put(1, -1, 0)", x, 1, x.put(1, -1, 0), BEYOND);
        Check.due("put(1, 0, 0)", x.put(1, 0, 0), 1032);
    }

    private static void dueFault(String signs, int fault) {
        TownRepeated x = new TownRepeated();
        Check.write(x, 2, signs);
        Check.due("fault of '" + signs + "'", x.fault(2), fault);
        Check.due("chain of '" + signs + "'", x.chain(2) == TownRepeated.STATE ? 1 : 0, fault == TownRepeated.NONE ? 0 : 1);
    }

    private static void noFault() {
        dueFault("p00", TownRepeated.NONE);
        dueFault("   p99   ", TownRepeated.NONE);
        dueFault("p00d11z22l33s44", TownRepeated.NONE);
        dueFault("f59  d11   x4A09x0T19", TownRepeated.NONE);
        dueFault("p00p00p00p00p00x0A01x0A11x0A21x0A31x0A41x4T49", TownRepeated.NONE);
        dueFault("p00 x0A01                                                   ", TownRepeated.NONE);
    }

    private static void faultInPersons() {
        dueFault("", 0);
        dueFault("    ", 4);
        dueFault("q00", 0);
        dueFault(" P00", 1);
        dueFault("p", 1);
        dueFault("p0", 2);
        dueFault("p 00", 1);
        dueFault("p0 0", 2);
        dueFault("pp0", 1);
        dueFault("p0/", 2);
        dueFault("p0:", 2);
        dueFault("p/0", 1);
        dueFault("p:0", 1);
        dueFault("p00 0", 4);
        dueFault("p00,", 3);
        dueFault("p00 d1", 6);
        dueFault("p00p00p00p00p00p00", 15);
        dueFault("p00p00p00p00p00 p", 16);
        dueFault("p00\0", 3);
        dueFault("p00\u00f0", 3);
    }

    private static void faultInErrors() {
        dueFault("x0A01", 0);
        dueFault(" x", 1);
        dueFault("p00x", 4);
        dueFault("p00x0", 5);
        dueFault("p00x0A", 6);
        dueFault("p00x0A0", 7);
        dueFault("p00x5A01", 4);
        dueFault("p00x/A01", 4);
        dueFault("p00xAA01", 4);
        dueFault("p00x0U01", 5);
        dueFault("p00x0@01", 5);
        dueFault("p00x0a01", 5);
        dueFault("p00x0001", 5);
        dueFault("p00x0A11", 6);
        dueFault("p00p00x0A21", 9);
        dueFault("p00x0A/1", 6);
        dueFault("p00x0A00", 7);
        dueFault("p00x0A0:", 7);
        dueFault("p00x 0A01", 4);
        dueFault("p00x0 A01", 5);
        dueFault("p00x0A 01", 6);
        dueFault("p00x0A0 1", 7);
        dueFault("p00x0A01 p00", 9);
        dueFault("p00x0A01 q", 9);
        dueFault("p00x0A01x0A01x0A01x0A01x0A01x0A01x0A01", 33);
        dueFault("p00x0A01x0A01x0A01x0A01x0A01x0A01 x", 34);
    }

    private static void faultRefused() {
        TownRepeated x = new TownRepeated();
        Check.due("fault(4)", x.fault(4), TownRepeated.BAD);
        Check.due("fault(-1)", x.fault(-1), TownRepeated.BAD);
        Check.dueFinding("fault(0)", x, 0, x.fault(0), NOTHING);
    }

    private static void chain() {
        TownRepeated x = new TownRepeated();
        Check.write(x, 3, " p31d02 x1C03  x4T19 ");
        Check.due("chain(3)", x.chain(3), 2);
        Check.due("count(0)", x.count(0), 2);
        Check.due("count(1)", x.count(1), 2);
        int[][] persons = {{0, 3, 1}, {1, 0, 2}};
        int[][] errors = {{1, 2, 0, 3, 0}, {4, 19, 1, 9, 0}};
        for (int i = 0; i < 2; i++) {
            for (int what = 0; what < 3; what++) {
                Check.dueAsked("person(" + i + ", " + what + ")", x, x.person(i, what), 1, persons[i][what]);
            }
            for (int what = 0; what < 5; what++) {
                Check.dueAsked("error(" + i + ", " + what + ")", x, x.error(i, what), 1, errors[i][what]);
            }
        }
        Check.due("the chain is no longer the text's", x.text(3, 0), 0);
        Check.due("count(0) then", x.count(0), 2);
    }

    private static void chainAnew() {
        TownRepeated x = Check.chainOf("p31d02x1C03x1D03");
        x.day();
        x.mend(0, 1);
        x.err(0, 1);
        x.keep(0);
        x.keep(2);
        Check.due("count(8)", x.count(8), 2);
        Check.due("chain(0) anew", x.chain(0), 2);
        int[] counts = {2, 2, 0, 0, 0, 1, 0, 1, 0};
        for (int what = 0; what < 9; what++) {
            Check.due("anew: count(" + what + ")", x.count(what), counts[what]);
        }
        Check.dueFinding("kept chains go", x, 0, x.on(0), NOTHING);
        Check.due("stride anew", x.stride(0, 7), 1);
        x.chain(0);
        Check.due("stride by the text", x.stride(0, 7), 1);
        Check.write(x, 1, "l00");
        Check.due("chain(1)", x.chain(1), 1);
        Check.due("no errors", x.count(1), 0);
    }

    private static void chainRefused() {
        TownRepeated x = Check.chainOf("p31x1C03");
        x.day();
        x.keep(1);
        long was = x.digest();
        Check.due("chain(4)", x.chain(4), TownRepeated.BAD);
        Check.due("chain(-1)", x.chain(-1), TownRepeated.BAD);
        Check.dueFinding("chain(1)", x, 0, x.chain(1), NOTHING);
        Check.due("nothing has changed", x.digest(), was);
        Check.write(x, 1, "d11 d22 d33 x");
        long then = x.digest();
        Check.due("chain with a fault", x.chain(1), TownRepeated.STATE);
        Check.due("a fault changes nothing", x.digest(), then);
        Check.due("does(0, 1, 0) as ahead", x.does(0, 1, 0), 4);
    }
}
