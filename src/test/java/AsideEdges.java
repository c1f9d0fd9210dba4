/** Promises 28 to 31: warn, agree, next, letter. */
final class AsideEdges {
    private AsideEdges() {
    }

    static void run() {
        warn();
        warnOthers();
        warnRefused();
        agree();
        agreeRefused();
        next();
        letter();
        letterRefused();
    }

    private static void warn() {
        Edge of = Edge.of(28, "The soonest WARNING (an ERROR by 5 more, of that PERSON, in a TOWN from 1 to that one, "
            + "on a DAY from TODAY on, not above that one) by which a PERSON DOES not a DEED in a TOWN (1 .. 4) on a DAY: "
            + "the DAY of the WARNING (the first), its TOWN (the first) by asked().");
        of.anew().chain("p00").asks(1, 1, "warn", 1, 1, 0, 0).asks(1, 1, "warn", 2, 2, 0, 0).asks(1, 1, "warn", 4, 4, 0, 0)
            .asks(19, 1, "warn", 1, 19, 0, 0).asks(16, 1, "warn", 4, 19, 0, 0).bad("warn", 0, 1, 0, 0).bad("warn", 5, 9, 0, 0);
        Edge days = of.anew().chain("p00").days(1).asks(1, 1, "warn", 4, 4, 0, 0);
        days.days(2).asks(2, 2, "warn", 4, 4, 0, 0).days(3).asks(3, 3, "warn", 4, 4, 0, 0).days(4).asks(4, 4, "warn", 4, 4, 0, 0)
            .days(5).none("warn", 4, 4, 0, 0).none("warn", 1, 4, 0, 0).asks(5, 1, "warn", 1, 5, 0, 0).asks(5, 4, "warn", 4, 5, 0, 0)
            .days(19).none("warn", 4, 18, 0, 0).asks(19, 4, "warn", 4, 19, 0, 0).asks(19, 1, "warn", 1, 19, 0, 0);
    }

    private static void warnOthers() {
        Edge of = Edge.of(28, "(an ERROR by 5 more, of that PERSON, in a TOWN from 1 to that one, on a DAY from TODAY on, not above that one)");
        // A FOOL that DOES 0 by a WARNING DOES 5 in the next TOWN: only the last one helps.
        of.anew().chain("f50").asks(1, 1, "warn", 1, 1, 0, 5).asks(2, 2, "warn", 2, 2, 0, 5).asks(4, 4, "warn", 4, 4, 0, 5)
            .days(5).none("warn", 4, 4, 0, 5);
        of.anew().chain("f60").asks(1, 1, "warn", 4, 4, 0, 6);
        // 5 on DAYS 8 and 9 in TOWN 0; 3 and 2 more in TOWN 1 on DAY 9.
        of.anew().chain("f11").asks(10, 2, "warn", 2, 10, 0, 5).asks(11, 2, "warn", 2, 11, 0, 5).asks(11, 1, "warn", 2, 12, 0, 6);
        of.anew().chain("f13").asks(18, 2, "warn", 2, 18, 0, 5);
        of.anew().chain("p00p00p00p00f50").asks(2, 2, "warn", 2, 2, 4, 5).asks(1, 1, "warn", 2, 2, 3, 0);
        of.anew().chain("f30x1J02").asks(11, 3, "warn", 3, 11, 0, 5).asks(8, 1, "warn", 3, 10, 0, 3).asks(10, 1, "warn", 3, 12, 0, 3);
        of.anew().chain("l30d30").asks(4, 1, "warn", 3, 6, 0, 6).asks(4, 1, "warn", 3, 6, 1, 6);
        // 12 ERRORS are no hindrance, nor are 40 TURNS.
        of.anew().chain("p00").errors(12, 1010, 5).asks(1, 1, "warn", 1, 1, 0, 0).due(12, "count", 1);
        of.anew().chain("p00x1B05").mends(40, 0).asks(1, 1, "warn", 1, 1, 0, 5).due(40, "count", 4);
        of.anew().chain("p00x1B05").asks(1, 1, "warn", 1, 1, 0, 5).none("warn", 1, 1, 0, 0)
            .due(1, "mend", 0, 1).asks(1, 1, "warn", 1, 1, 0, 0).none("warn", 1, 1, 0, 5);
    }

    private static void warnRefused() {
        Edge.of(28, "NONE: none does, or it does not DO it all the same.")
            .chain("p30").asks(1, 1, "warn", 2, 2, 0, 3).none("warn", 2, 2, 0, 2).none("warn", 2, 2, 0, 4).none("warn", 2, 2, 0, 8)
            .none("warn", 1, 0, 0, 3).none("warn", 4, 3, 0, 3).none("warn", 4, 0, 0, 0).asks(1, 1, "warn", 4, 4, 0, 3)
            .days(3).none("warn", 2, 2, 0, 3).asks(3, 2, "warn", 2, 3, 0, 3);
        Edge.of(28, "BAD.").bad("warn", 1, 1, 0, 0).chain("p00p00").asks(1, 1, "warn", 1, 1, 0, 0)
            .bad("warn", 0, 1, 0, 0).bad("warn", -1, 1, 0, 0).bad("warn", 5, 9, 0, 0).bad("warn", 1, -1, 0, 0)
            .bad("warn", 1, 20, 0, 0).bad("warn", 1, 1, -1, 0).bad("warn", 1, 1, 2, 0).bad("warn", 1, 1, 0, -1)
            .bad("warn", 1, 1, 0, 10).bad("warn", 4, 3, 0, -9).bad("warn", Edge.LEAST, 1, 0, 0)
            .bad("warn", Edge.GREATEST, 1, 0, 0).bad("warn", 1, Edge.LEAST, 0, 0).bad("warn", 1, Edge.GREATEST, 0, 0)
            .bad("warn", 1, 1, Edge.GREATEST, 0).bad("warn", 1, 1, 0, Edge.GREATEST).asks(16, 1, "warn", 4, 19, 1, 0);
    }

    private static void agree() {
        Edge of = Edge.of(29, "The fewest ERRORS more to be MENDED so that two TOWNS (t the lesser number) DIFFER in no PERSON "
            + "on a DAY (from u on); which by asked() (bits; the least of as few).");
        of.anew().asks(0, 0, "agree", 0, 1, 1).asks(0, 0, "agree", 0, 4, 19);
        of.anew().chain("p00x0A05x1B09").asks(1, 2, "agree", 0, 1, 1).asks(0, 0, "agree", 0, 1, 2).asks(0, 0, "agree", 1, 2, 2)
            .asks(1, 2, "agree", 0, 4, 4).bad("agree", 0, 4, 3).bad("agree", 0, 1, 0)
            .due(1, "mend", 1, 1).asks(0, 0, "agree", 0, 1, 1);
        // One of three, two of three; the fewest though its bits are more.
        of.anew().chain("p00x1B05x1B05x1B05").asks(1, 1, "agree", 0, 1, 1).due(1, "mend", 0, 1).asks(0, 0, "agree", 0, 1, 1);
        of.anew().chain("p00x1B02x1B03x1B06x1B09x1B05").asks(1, 16, "agree", 0, 1, 1);
        of.anew().chain("p00x1B01x1B04x1B09x1B02x1B07").asks(2, 2 + 4, "agree", 0, 1, 1);
        of.anew().chain("p00p00x1B15x1B05x1B15x1B05x1B05x1B15").asks(2, 1 + 2, "agree", 0, 1, 1);
        of.anew().chain("p00").errors(12, 1010, 1).asks(2, 3, "agree", 0, 1, 1)
            .due(1, "mend", 0, 1).asks(1, 2, "agree", 0, 1, 1).due(2, "mend", 11, 1).asks(0, 0, "agree", 0, 1, 1)
            .due(3, "mend", 5, 1).asks(9, 4095 - 1 - 2048 - 32, "agree", 0, 1, 1);
        of.anew().chain("p00").errors(9, 1010, 1).asks(9, 511, "agree", 0, 1, 1).asks(9, 511, "agree", 0, 4, 4)
            .errors(1, 1010, 1).asks(0, 0, "agree", 0, 1, 1);
        // What is done in TOWN 0 makes a FOOL differ: there an ERROR is to be MENDED.
        of.anew().chain("f10x0C09x0E05").asks(0, 0, "agree", 0, 1, 2).asks(1, 1, "agree", 0, 1, 3).asks(1, 1, "agree", 0, 1, 4)
            .asks(0, 0, "agree", 0, 1, 5);
        Edge.of(29, "NONE: by none.")
            .chain("d00x1B09").asks(0, 0, "agree", 0, 1, 1).none("agree", 0, 1, 2).none("agree", 0, 4, 4)
            .due(1, "mend", 0, 1).none("agree", 0, 1, 1)
            .anew().chain("p00d00x1B05").none("agree", 0, 1, 1).asks(1, 5, "error", 0, 3).none("agree", 0, 1, 1);
    }

    private static void agreeRefused() {
        Edge.of(29, "BAD: also t not below u.")
            .bad("agree", 0, 0, 5).bad("agree", 0, 5, 5).chain("p00").asks(0, 0, "agree", 0, 1, 1)
            .bad("agree", 0, 0, 5).bad("agree", 1, 0, 5).bad("agree", 4, 4, 5).bad("agree", 4, 3, 5).bad("agree", -1, 1, 5)
            .bad("agree", 0, 5, 5).bad("agree", 4, 5, 5).bad("agree", -1, 0, 5).bad("agree", 0, 2, 1).bad("agree", 0, 4, 3)
            .bad("agree", 3, 4, 3).bad("agree", 0, 1, 20).bad("agree", 0, 1, -1).bad("agree", Edge.LEAST, 1, 5)
            .bad("agree", 0, Edge.GREATEST, 5).bad("agree", 0, 1, Edge.LEAST).bad("agree", 0, 1, Edge.GREATEST)
            .asks(0, 0, "agree", 3, 4, 4).asks(0, 0, "agree", 0, 1, 19);
    }

    private static void next() {
        Edge.of(30, "The first DAY from d on on which a PERSON DOES a DEED in a TOWN.")
            .chain("p01p90").due(5, "next", 0, 0, 0, 5).due(5, "next", 0, 5, 0, 5).due(15, "next", 0, 6, 0, 5)
            .due(15, "next", 0, 15, 0, 5).due(0, "next", 0, 0, 0, 0).due(19, "next", 0, 19, 0, 9).due(9, "next", 4, 0, 0, 5)
            .due(4, "next", 4, 0, 0, 0).due(4, "next", 4, 4, 0, 0).due(14, "next", 4, 5, 0, 0).due(4, "next", 4, 3, 1, 9);
        Edge.of(30, "NONE: none to DAY 19.")
            .chain("p01p90").asks(1, 9, "person", 1, 1).none("next", 0, 16, 0, 5).due(15, "next", 0, 15, 0, 5).none("next", 0, 19, 0, 8)
            .due(18, "next", 0, 18, 0, 8).none("next", 0, 0, 1, 0).none("next", 4, 0, 1, 8).due(19, "next", 4, 10, 0, 5)
            .none("next", 4, 16, 0, 1);
        Edge.of(30, "BAD.").bad("next", 0, 0, 0, 0).chain("p00p00")
            .bad("next", -1, 0, 0, 0).bad("next", 5, 0, 0, 0).bad("next", 0, -1, 0, 0).bad("next", 0, 20, 0, 0)
            .bad("next", 0, 0, -1, 0).bad("next", 0, 0, 2, 0).bad("next", 0, 0, 0, -1).bad("next", 0, 0, 0, 10)
            .bad("next", 4, 0, 0, -9).bad("next", Edge.LEAST, 0, 0, 0).bad("next", 0, Edge.LEAST, 0, 0)
            .bad("next", 0, Edge.GREATEST, 0, 0).bad("next", 0, 0, Edge.GREATEST, 0).bad("next", 0, 0, 0, Edge.GREATEST)
            .due(19, "next", 4, 19, 1, 0);
    }

    private static void letter() {
        Edge of = Edge.of(31, "A letter is about a DEED in a TOWN; who gets it writes in it what a PERSON DOES there on the DAY "
            + "that is 10 and the DEED, and it goes to the next TOWN (behind 4 to 0), and so on: how often it is sent on till it "
            + "comes to a TOWN with the same DEED as once ahead of that; how many times less that was by asked() "
            + "(so in as many times it goes round).");
        // 0/0 1/0 2/0 3/0 4/0 0/0; from another DEED once more.
        of.anew().chain("p00").asks(5, 5, "letter", 0, 0, 0).asks(6, 5, "letter", 0, 0, 9).asks(6, 5, "letter", 4, 0, 1)
            .asks(5, 5, "letter", 4, 0, 0);
        of.anew().chain("p90").asks(5, 5, "letter", 2, 0, 9).asks(6, 5, "letter", 2, 0, 8);
        // By 1 a DAY: 0 DOES 10 and it, 1 one less, ..: 0/0 1/0 2/9 3/7 4/4 0/0.
        of.anew().chain("p01").asks(5, 5, "letter", 0, 0, 0).asks(5, 5, "letter", 0, 0, 9).asks(5, 5, "letter", 3, 0, 7);
        // In TOWN 0 each is 1 more than it: 0/0 1/1 2/1 3/0 4/8 0/5; a round is 5 more, so there are two.
        of.anew().chain("p11").asks(10, 10, "letter", 0, 0, 0).asks(10, 10, "letter", 0, 0, 5).asks(10, 10, "letter", 0, 0, 1);
        // A LEFT one: 1 more a round, so all TOWNS with all DEEDS: no letter is sent on more often.
        of.anew().chain("l11").asks(50, 50, "letter", 0, 0, 0).asks(50, 50, "letter", 4, 0, 9);
        of.anew().chain("l21x1T07").asks(50, 25, "letter", 2, 0, 9);
        // On DAY 10 another than on DAYS 11 to 19.
        of.anew().chain("p00x0K01x0L01").asks(5, 5, "letter", 0, 0, 0).asks(9, 5, "letter", 0, 0, 1);
        // DAY 19 is the last that is written: 0/0 1/9 2/9 3/9 4/9 0/9 1/8 2/9, and 0/9 1/8 2/9 3/9 4/9 0/9.
        of.anew().chain("p90x0T09").asks(7, 5, "letter", 0, 0, 0).asks(5, 5, "letter", 0, 0, 9);
    }

    private static void letterRefused() {
        Edge.of(31, "BAD.").bad("letter", 0, 0, 0).chain("p00p00").asks(6, 5, "letter", 0, 0, 9)
            .bad("letter", -1, 0, 0).bad("letter", 5, 0, 0).bad("letter", 0, -1, 0).bad("letter", 0, 2, 0)
            .bad("letter", 0, 0, -1).bad("letter", 0, 0, 10).bad("letter", 0, 0, -9).bad("letter", Edge.LEAST, 0, 0)
            .bad("letter", Edge.GREATEST, 0, 0).bad("letter", 0, Edge.LEAST, 0).bad("letter", 0, Edge.GREATEST, 0)
            .bad("letter", 0, 0, Edge.LEAST).bad("letter", 0, 0, Edge.GREATEST).asks(6, 5, "letter", 4, 1, 9);
    }
}
