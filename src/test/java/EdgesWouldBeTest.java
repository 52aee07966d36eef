/** Edges of promises 19 to 32: what would be. */
public final class EdgesWouldBeTest {
    private EdgesWouldBeTest() {
    }

    public static void main(String[] args) {
        then();
        spreads();
        when();
        whenNone();
        lasts();
        lastsNone();
        silverFor();
        silverForNone();
        washFor();
        kindFor();
        rubbed();
        rubbedNone();
        which();
        whichNone();
        washers();
        telling();
        gossip();
        much();
        odds();
        Due.end();
    }

    /** An APOSTLE that can't be READ: as often as it is washed, HOURS 3, 7, .. 59, it is 1 less. */
    private static Run apostle(int silver) {
        return new Run().make("spoon", 20, silver).make("swallow", 5, 0, 3).make("wash", 3, 0);
    }

    private static void then() {
        Sentence.of("Promise 19", "BEHIND n HOURS: SILVER (what 0), WORDS ON one, as a set (1).");
        Run r = apostle(15).make("change", 0, 12, 9).make("change", 0, 1, 1);
        r.due(15, "then", 0, 0, 0).due(2049, "then", 0, 0, 1).due(15, "then", 1, 0, 0).due(2048, "then", 1, 0, 1);
        r.due(15, "then", 3, 0, 0).due(14, "then", 4, 0, 0).due(8, "then", 6, 0, 1).due(1, "then", 59, 0, 0);
        r.due(0, "then", 60, 0, 0).due(0, "then", 60, 0, 1).due(15, "ofSpoon", 0, 2).due(2049, "ofSpoon", 0, 3);
        // SPOONS 0 and 7; one that is THROUGH.
        r = Scene.FULL.make();
        r.due(r.call("ofSpoon", 0, 2), "then", 0, 0, 0).due(r.call("ofSpoon", 7, 3), "then", 0, 7, 1);
        r.due(0, "then", 0, 3, 0).due(0, "then", 60, 3, 0);
        Sentence.of("Promise 19", "BEYOND.");
        Refused.outside("then", 0, 0, 60, 0, 0, 0);
        Refused.outside("then", 1, 0, 3, 0, 0, 0);
        Refused.outside("then", 2, 0, 1, 0, 0, 0);
        Refused.outside(Scene.FULL, "then", 1, 0, 7, 0, 0, 0);
    }

    private static void spreads() {
        Sentence.of("Promise 20", "SPREADS.");
        apostle(15).due(0, "spreads", 0).due(0, "spreads", 59).due(1, "spreads", 60).due(0, "count", 2);
        apostle(15).make("known", 4095).due(12, "spreads", 0).due(12, "spreads", 60);
        Sentence.of("Promise 20", "BEYOND.");
        Refused.outside("spreads", 0, 0, 60, 0);
    }

    private static void when() {
        Sentence.of("Promise 21", "WHEN.");
        apostle(15).make("known", 2049).due(0, "when", 0).due(0, "when", 11).due(60, "when", 3);
        Sentence.of("Promise 21", "BEYOND.");
        Refused.outside("when", 0, 0, 11, 0);
    }

    private static void whenNone() {
        Sentence.of("Promise 21", "NONE: not by 60.");
        apostle(16).due(Due.NONE, "when", 3);
        // By 61 it would be.
        new Run().pass(3).make("spoon", 20, 16).make("swallow", 3, 0, 3).make("wash", 3, 0).due(Due.NONE, "when", 3);
        Refused.in(Scene.MIDDLE, Due.NONE, "when", 1);
        Refused.in(Scene.BARE, Due.NONE, "when", 0);
        Refused.in(Scene.BARE, Due.NONE, "when", 11);
    }

    private static void lasts() {
        Sentence.of("Promise 22", "LASTS.");
        apostle(15).due(60, "lasts", 0).make("change", 0, 0, 1).due(4, "lasts", 0).make("change", 0, 0, 0)
            .due(0, "lasts", 0);
        Sentence.of("Promise 22", "BEYOND.");
        Refused.outside("lasts", 0, 0, 3, 0);
        Refused.outside(Scene.FULL, "lasts", 0, 0, 7, 0);
        Refused.outside(Scene.BARE, "lasts", 0, 0, -1, 0);
    }

    private static void lastsNone() {
        Sentence.of("Promise 22", "NONE: not by 60.");
        // By 61 it would be.
        new Run().pass(3).make("spoon", 20, 16).make("wash", 3, 0).due(Due.NONE, "lasts", 0).make("change", 0, 0, 15)
            .due(57, "lasts", 0);
        apostle(16).due(Due.NONE, "lasts", 0);
        Refused.in(Scene.MIDDLE, Due.NONE, "lasts", 3);
    }

    private static void silverFor() {
        Sentence.of("Promise 23", "SILVER for one.");
        apostle(0).due(1, "silverFor", 0, 0).due(1, "silverFor", 0, 3).due(2, "silverFor", 0, 4);
        apostle(99).due(15, "silverFor", 0, 59).due(16, "silverFor", 0, 60).due(99, "ofSpoon", 0, 2);
        Run r = new Run().text(1, "20*(s<99)").make("spoon", 0, 1).make("wash", 0, 0);
        r.due(21, "silverFor", 0, 1).due(99, "silverFor", 0, 60).due(1, "silverFor", 0, 0);
        Sentence.of("Promise 23", "BEYOND.");
        Refused.outside("silverFor", 0, 0, 3, 0, 0);
        Refused.outside("silverFor", 1, 0, 60, 0, 0);
        Refused.outside(Scene.FULL, "silverFor", 0, 0, 7, 0, 0);
    }

    private static void silverForNone() {
        Sentence.of("Promise 23", "NONE: with none.");
        // 99 less 5 times 20; less 4 times 20, 81 will do.
        Run r = new Run().text(1, "20").make("spoon", 0, 99).make("wash", 0, 0);
        r.due(81, "silverFor", 0, 13).due(81, "silverFor", 0, 16).due(Due.NONE, "silverFor", 0, 17);
        Refused.in(Scene.MIDDLE, Due.NONE, "silverFor", 0, 60);
    }

    private static void washFor() {
        Sentence.of("Promise 24", "WASH for a place: 1, and the SPOON.");
        Run r = new Run();
        for (int s = 0; s < 8; s++) {
            r.make("spoon", 0, 1);
        }
        for (int p = 0; p < 4; p++) {
            r.due(0, "washFor", p, 0).due(0, "washFor", p, 60);
        }
        // Only what is THROUGH by HOUR 0 tells nothing in HOUR 1.
        for (int s = 0; s < 8; s++) {
            r.make("swallow", 1, s, 5).make("wash", 1, s).due(s + 1, "washFor", 0, 60).due(0, "washFor", 0, 1);
        }
        // Place 3 is the last; the HOUR of it comes once.
        r = new Run().make("spoon", 0, 1).make("swallow", 4, 0, 5).make("wash", 0, 0).make("hours", 3);
        r.make("change", 0, 0, 1).due(1, "washFor", 3, 2).due(0, "washFor", 3, 1).due(0, "ofWash", 3);
        Sentence.of("Promise 24", "BEYOND.");
        Refused.outside("washFor", 0, 0, 3, 0, 0);
        Refused.outside("washFor", 1, 0, 60, 0, 0);
    }

    private static void kindFor() {
        Sentence.of("Promise 25", "KIND for one.");
        Run r = new Run();
        for (int s = 0; s < 8; s++) {
            r.make("spoon", 10, 99).make("change", s, 1, 8);
        }
        r.make("wash", 0, 7).due(6, "kindFor", 7, 1).due(6, "kindFor", 7, 60).due(0, "kindFor", 7, 0);
        r.due(0, "kindFor", 0, 60).due(1, "ofSpoon", 7, 0).make("change", 7, 1, 9).due(0, "kindFor", 7, 1);
        Sentence.of("Promise 25", "BEYOND.");
        Refused.outside("kindFor", 0, 0, 3, 0, 0);
        Refused.outside("kindFor", 1, 0, 60, 0, 0);
        Refused.outside(Scene.FULL, "kindFor", 0, 0, 7, 0, 0);
    }

    private static void rubbed() {
        Sentence.of("Promise 26", "RUBBED, by a SHEET: what 0 how many, 1 the least.");
        for (int t = 0; t < 4; t++) {
            Run r = new Run().make("spoon", 49, 50).make("wash", 0, 0).make("change", 0, 1, 1).sheet(t, 8);
            r.due(100, "rubbed", t, 0, 0).due(0, "rubbed", t, 0, 1);
            r.sheet(t, 16, 1).due(99, "rubbed", t, 0, 0).due(1, "rubbed", t, 0, 1);
            r.sheet(t, 32, 0).due(1, "rubbed", t, 0, 0).due(0, "rubbed", t, 0, 1);
            r.sheet(t, 32, 2).due(0, "rubbed", t, 0, 0);
        }
        Sentence.of("Promise 26", "BEYOND.");
        Refused.outside("rubbed", 0, 0, 3, 0, 0, 0);
        Refused.outside("rubbed", 1, 0, 3, 0, 0, 0);
        Refused.outside("rubbed", 2, 0, 1, 0, 0, 0);
        Refused.in(Scene.MIDDLE, Due.BEYOND, "rubbed", 3, 4, 0);
        Refused.in(Scene.MIDDLE, Due.BEYOND, "rubbed", 3, 0, 2);
    }

    private static void rubbedNone() {
        Sentence.of("Promise 26", "NONE: the SHEET is missing;");
        Refused.in(Scene.MIDDLE, Due.NONE, "rubbed", 3, 0, 0);
        Refused.in(Scene.MIDDLE, Due.NONE, "rubbed", 3, 0, 1);
        new Run().make("spoon", 0, 5).make("sheet", 0, 8, 0).make("sheet", 0, 0, 0).due(Due.NONE, "rubbed", 0, 0, 0);
        Sentence.of("Promise 26", "(what 1) there is none.");
        Run r = new Run().make("spoon", 0, 5);
        r.sheet(0, 8, 13).due(0, "rubbed", 0, 0, 0).due(Due.NONE, "rubbed", 0, 0, 1);
        r.sheet(0, 8, -1).due(0, "rubbed", 0, 0, 0).due(Due.NONE, "rubbed", 0, 0, 1).due(2, "told", 2);
        Refused.in(Scene.MIDDLE, Due.NONE, "rubbed", 0, 0, 1);
    }

    private static void which() {
        Sentence.of("Promise 27", "WHICH, by a SHEET.");
        for (int t = 0; t < 4; t++) {
            Run r = new Run().make("spoon", 0, 50).make("wash", 0, 0).make("change", 0, 1, 8).sheet(t, 8);
            r.due(127, "which", t, 0).sheet(t, 16, 0).due(64, "which", t, 0).sheet(t, 32, 1).due(63, "which", t, 0);
            r.sheet(t, 8, 2).due(0, "which", t, 0);
        }
        Sentence.of("Promise 27", "BEYOND.");
        Refused.outside("which", 0, 0, 3, 0, 0);
        Refused.outside("which", 1, 0, 3, 0, 0);
        Refused.in(Scene.MIDDLE, Due.BEYOND, "which", 3, 4);
    }

    private static void whichNone() {
        Sentence.of("Promise 27", "NONE: the SHEET is missing.");
        Refused.in(Scene.MIDDLE, Due.NONE, "which", 3, 0);
        new Run().make("spoon", 0, 5).make("sheet", 0, 8, 0).make("sheet", 0, 0, 0).due(Due.NONE, "which", 0, 0);
    }

    private static void washers() {
        Sentence.of("Promise 28", "WASHERS.");
        Run r = new Run().due(0, "washers").make("spoon", 0, 0).due(1, "washers").make("change", 0, 1, 9);
        r.due(1, "washers");
        for (int s = 1; s < 8; s++) {
            r.make("spoon", 0, 0).make("change", s, 1, 1).due(s + 1, "washers");
        }
        // What fades clashes no more.
        r.make("hours", 1).due(1, "washers");
        for (int k = 1; k <= 5; k++) {
            r.due(0, "told", k);
        }
    }

    private static void telling() {
        Sentence.of("Promise 29", "TELLING.");
        Run r = new Run().due(0, "telling", 0);
        for (int s = 0; s < 8; s++) {
            r.make("spoon", 0, 0);
        }
        r.due(0, "telling", 0).make("change", 7, 12, 1).due(128, "telling", 2048).make("change", 6, 12, 1);
        r.due(64, "telling", 2048).make("change", 7, 1, 1).due(128, "telling", 2049).due(64, "telling", 2048);
        Sentence.of("Promise 29", "BEYOND.");
        Refused.outside("telling", 0, 0, 4095, 0);
        Refused.outside(Scene.FULL, "telling", 0, 0, 4095, 0);
        Sentence.of("Promise 29", "NONE: with none.");
        r.due(Due.NONE, "telling", 2048 + 1024).due(Due.NONE, "telling", 4095).due(Due.NONE, "telling", 2);
        new Run().due(Due.NONE, "telling", 1).due(Due.NONE, "telling", 4095);
        Refused.in(Scene.MIDDLE, Due.NONE, "telling", 4095);
    }

    private static void gossip() {
        Sentence.of("Promise 30", "GOSSIP.");
        apostle(15).due(0, "gossip", 0).due(0, "gossip", 59).due(3, "gossip", 60).make("known", 4095)
            .due(46, "gossip", 0).due(46, "gossip", 60).due(9, "word", 9, 0).due(37, "gossip", 60);
        Sentence.of("Promise 30", "BEYOND.");
        Refused.outside("gossip", 0, 0, 60, 0);
    }

    private static void much() {
        Sentence.of("Promise 31", "MUCH.");
        Run r = new Run();
        for (int s = 0; s < 8; s++) {
            r.make("spoon", 0, s).make("wash", s % 4, s).due(0, "much", s).make("change", s, 12 - s, 9);
            r.due(9, "much", s).make("change", s, 1, s % 2 + 1).make("change", s, 12 - s, 1).due(s % 2 + 1, "much", s);
        }
        Sentence.of("Promise 31", "BEYOND.");
        Refused.outside("much", 0, 0, 3, 0);
        Refused.outside(Scene.FULL, "much", 0, 0, 7, 0);
        Refused.outside(Scene.BARE, "much", 0, 0, -1, 0);
    }

    private static void odds() {
        Sentence.of("Promise 32", "ODDS: part 0 above, 1 below the line.");
        new Run().due(0, "odds", 0, 0, 0).due(1, "odds", 0, 0, 1).due(0, "odds", 30, 11, 0).due(1, "odds", 30, 11, 1);
        new Run().make("known", 1).due(1, "odds", 0, 0, 0).due(1, "odds", 0, 0, 1).due(1, "odds", 30, 0, 1);
        Run r = new Run().make("spoon", 0, 9).make("swallow", 0, 0, 0).make("wash", 0, 0);
        r.due(1, "odds", 1, 11, 0).due(12, "odds", 1, 11, 1).due(1, "odds", 1, 0, 0).due(12, "odds", 1, 0, 1);
        r.due(12, "ofSwallow", 0);
        Sentence.of("Promise 32", "BEYOND.");
        Refused.outside("odds", 0, 0, 30, 0, 0, 0);
        Refused.outside("odds", 1, 0, 11, 0, 0, 0);
        Refused.outside("odds", 2, 0, 1, 0, 0, 0);
    }
}
