/** What the tests share: answers that are due, and chains by a text. */
final class Check {
    private static int made = 0;
    private static int wrong = 0;

    private Check() {
    }

    static void due(String what, long got, long want) {
        made++;
        if (got != want) {
            wrong++;
            System.out.println(what + " answered " + got + ", due is " + want);
        }
    }

    /** A refusal by a FINDING: the answer, which finding, and that it is counted once more. */
    static void dueFinding(String what, TownRepeated x, int before, int got, int finding) {
        due(what, got, TownRepeated.FINDING);
        due(what + ": finding()", x.finding(), finding);
        due(what + ": findings(" + finding + ")", x.findings(finding), before + 1);
    }

    /** A call that tells 1, and what is told by asked(). */
    static void dueAsked(String what, TownRepeated x, int got, int want, int asked) {
        due(what, got, want);
        due(what + ": asked()", x.asked(), asked);
    }

    static void write(TownRepeated x, int t, String signs) {
        due("text of " + signs, x.text(t, signs.length()), signs.length());
        for (int i = 0; i < signs.length(); i++) {
            x.put(t, i, signs.charAt(i));
        }
    }

    static TownRepeated chainOf(String signs) {
        TownRepeated x = new TownRepeated();
        write(x, 0, signs);
        due("fault of " + signs, x.fault(0), TownRepeated.NONE);
        x.chain(0);
        return x;
    }

    static void rowOf(TownRepeated x, int r, int... ints) {
        due("row of " + ints.length, x.row(r, ints.length), ints.length);
        for (int i = 0; i < ints.length; i++) {
            x.lay(r, i, ints[i]);
        }
    }

    /** To be called last in a test's main. */
    static void end() {
        System.out.println(made + " answers, " + wrong + " wrong");
        if (wrong != 0 || made == 0) {
            System.exit(1);
        }
    }
}
