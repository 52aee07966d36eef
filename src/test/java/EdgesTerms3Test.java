/** Edges of numbers 3 and 4 of "Terms": what is only thought, draws, VOICES; SHEETS. */
public final class EdgesTerms3Test {
    private static final int MAX = Integer.MAX_VALUE;
    private static final int MIN = Integer.MIN_VALUE;

    private EdgesTerms3Test() {
    }

    public static void main(String[] args) {
        onlyThought();
        beyondTheLastHour();
        behind();
        spreads();
        when();
        lasts();
        silver();
        wash();
        kind();
        rubbed();
        which();
        clash();
        washers();
        telling();
        gossip();
        much();
        odds();
        draws();
        looseHours();
        voices();
        bodies();
        bodiesUnder();
        nextAbove();
        trace();
        sheets();
        Due.end();
    }

    /** An APOSTLE that can't be READ; with 15 SILVER it is THROUGH in HOUR 59, WORD 3 being ON it. */
    private static Run lastHour(int silver) {
        return new Run().make("spoon", 20, silver).make("swallow", 5, 0, 3).make("wash", 3, 0);
    }

    private static void onlyThought() {
        Sentence.of("Terms", "(All this is only thought, HOUR beyond 9999, too.)");
        Object[][] calls = {{"then", 60, 0, 0}, {"then", 60, 3, 1}, {"spreads", 60}, {"when", 7}, {"lasts", 0},
            {"silverFor", 0, 2}, {"washFor", 3, 60}, {"kindFor", 3, 60}, {"rubbed", 0, 3, 0}, {"which", 1, 3},
            {"washers"}, {"telling", 256}, {"gossip", 60}, {"much", 0}, {"odds", 30, 7, 1}};
        Look before = Scene.MIDDLE.look();
        for (Object[] call : calls) {
            long[] row = new long[call.length - 1];
            for (int i = 0; i < row.length; i++) {
                row[i] = (Integer) call[i + 1];
            }
            Run r = Scene.MIDDLE.make();
            int answer = r.call((String) call[0], row);
            Due.due(Run.told((String) call[0], row) + " is no ERROR", answer > Due.LOW ? 1 : 0, 1);
            String unlike = before.unlike(Look.at(r));
            Due.due(Run.told((String) call[0], row) + " changed: " + unlike, unlike.isEmpty() ? 1 : 0, 1);
        }
    }

    /** At HOUR 9999 the places are 3 and 3, behind it 4 and 0. */
    private static void beyondTheLastHour() {
        Sentence.of("Terms", "(All this is only thought, HOUR beyond 9999, too.)");
        Run r = new Run().pass(9999).due(9999, "count", 1).make("spoon", 30, 3).make("word", 7, 9);
        r.make("swallow", 3, 0, 7).make("wash", 0, 0);
        r.due(0, "spreads", 1).due(1, "spreads", 2).due(1, "spreads", 60);
        r.due(3, "then", 1, 0, 0).due(128, "then", 1, 0, 1).due(0, "then", 2, 0, 0).due(0, "then", 60, 0, 1);
        r.due(2, "when", 7).due(2, "lasts", 0).due(4, "silverFor", 0, 2).due(46, "silverFor", 0, 60);
        r.due(0, "washFor", 0, 2).due(0, "kindFor", 0, 2).due(0, "gossip", 1).due(9, "gossip", 2);
        r.due(0, "odds", 1, 7, 0).due(1, "odds", 2, 7, 0).due(12, "odds", 2, 7, 1);
        r.sheet(0, 8, 0, 1).due(99, "rubbed", 0, 0, 0).due(1, "rubbed", 0, 0, 1);
        r.due(2 + 8 + 16 + 64, "which", 0, 0);
        r.make("tell", 0).make("tell", 1).due(0, "check");
        r.due(Due.STATE, "hours", 1).due(9999, "count", 1).due(0, "count", 3).due(3, "count", 4);
        // HOUR 10000 SWALLOWS at place 4, not at 0.
        r.make("swallow", 3, -1, 7).make("swallow", 4, 0, 7).make("swallow", 0, 0, 9);
        r.due(0, "spreads", 1).due(1, "spreads", 2).due(2, "when", 7).due(Due.NONE, "when", 9);
    }

    private static void behind() {
        Sentence.of("Terms", "BEHIND n HOURS (0 to 60).");
        Run thought = Scene.MIDDLE.make();
        for (int n = 0; n <= 60; n++) {
            Run real = Scene.MIDDLE.make().pass(n);
            for (int s = 0; s < 4; s++) {
                thought.due(real.call("ofSpoon", s, 2), "then", n, s, 0);
                thought.due(real.call("ofSpoon", s, 3), "then", n, s, 1);
            }
            if (n == 30) {
                thought = Scene.MIDDLE.make();
            }
        }
        Refused.outside("then", 0, 0, 60, 0, 0, 0);
        Refused.outside("spreads", 0, 0, 60, 0);
        Refused.outside("gossip", 0, 0, 60, 0);
    }

    private static void spreads() {
        Sentence.of("Terms", "SPREADS by n (0 to 60): how many WORDS are KNOWN then.");
        new Run().due(0, "spreads", 0).due(0, "spreads", 60);
        new Run().make("known", 4095).due(12, "spreads", 0).due(12, "spreads", 60);
        lastHour(15).due(0, "spreads", 0).due(0, "spreads", 59).due(1, "spreads", 60);
        Run r = new Run().make("spoon", 0, 1).make("wash", 0, 0);
        for (int w = 0; w < 12; w++) {
            r.make("change", 0, 1 + w, 1);
        }
        r.due(0, "spreads", 0).due(12, "spreads", 1);
    }

    private static void when() {
        Sentence.of("Terms", "WHEN of a WORD: behind how many HOURS (0 to 60) it is KNOWN first.");
        new Run().make("known", 2049).due(0, "when", 0).due(0, "when", 11).due(Due.NONE, "when", 1);
        new Run().make("spoon", 0, 9).make("change", 0, 1, 3).make("wash", 0, 0).due(1, "when", 0);
        lastHour(15).due(60, "when", 3);
        lastHour(15).pass(1).due(59, "when", 3);
        lastHour(16).due(Due.NONE, "when", 3);
        // It would be KNOWN by 61.
        new Run().pass(3).make("spoon", 20, 15).make("swallow", 3, 0, 3).make("wash", 3, 0).due(57, "when", 3);
        new Run().pass(3).make("spoon", 20, 16).make("swallow", 3, 0, 3).make("wash", 3, 0).due(Due.NONE, "when", 3);
    }

    private static void lasts() {
        Sentence.of("Terms", "LASTS of one: behind how many HOURS (0 to 60) it is THROUGH first.");
        new Run().make("spoon", 0, 0).due(0, "lasts", 0);
        new Run().make("spoon", 0, 1).make("wash", 0, 0).due(1, "lasts", 0);
        lastHour(15).due(60, "lasts", 0);
        lastHour(14).due(56, "lasts", 0);
        lastHour(16).due(Due.NONE, "lasts", 0);
        new Run().make("spoon", 0, 1).due(Due.NONE, "lasts", 0);
    }

    private static void silver() {
        Sentence.of("Terms", "SILVER for one, n (0 to 60): the least (1 to 99) now with which it isn't THROUGH "
            + "behind n HOURS.");
        // By 0 HOURS 1 will do, for one that is THROUGH, too; so will it for one that is not washed.
        new Run().make("spoon", 0, 0).due(1, "silverFor", 0, 0).due(1, "silverFor", 0, 60);
        lastHour(1).due(1, "silverFor", 0, 0).due(1, "silverFor", 0, 3).due(2, "silverFor", 0, 4);
        lastHour(1).due(15, "silverFor", 0, 59).due(16, "silverFor", 0, 60);
        Run r = new Run().make("spoon", 10, 0);
        for (int p = 0; p < 4; p++) {
            r.make("wash", p, 0);
        }
        r.due(97, "silverFor", 0, 48).due(99, "silverFor", 0, 49).due(Due.NONE, "silverFor", 0, 50);
        r.due(0, "ofSpoon", 0, 2);
        // 99 is worn away by 33 HOURS of 3; 100 would not be.
        r.make("become", 0, 30).due(97, "silverFor", 0, 32).due(Due.NONE, "silverFor", 0, 33);
        // Less may do where more would not.
        r.text(1, "20*(s>1)-1").due(1, "silverFor", 0, 60).text(1, "20*(s<99)").due(99, "silverFor", 0, 60);
        Refused.outside("silverFor", 1, 0, 60, 0, 0);
    }

    private static void wash() {
        Sentence.of("Terms", "WASH for a place (0 to 3), n (0 to 60): the SPOON (-1 to 7) that, told there, lets "
            + "SPREADS by n be least; of several the least.");
        // SPOON 7, once it is THROUGH, SWALLOWS no more what HOUR 1 would tell.
        Run r = new Run();
        for (int s = 0; s < 8; s++) {
            r.make("spoon", 0, 1);
        }
        r.make("swallow", 1, 7, 5).make("wash", 1, 7).make("wash", 0, 3);
        r.due(8, "washFor", 0, 2).due(8, "washFor", 0, 60).due(4, "ofWash", 0);
        // Of several the least: none.
        r.due(0, "washFor", 0, 0).due(0, "washFor", 0, 1).due(0, "washFor", 1, 60).due(0, "washFor", 3, 60);
        // Each but 4 and 6 would tell of something; they are no better than none.
        r = new Run();
        for (int s = 0; s < 8; s++) {
            r.make("spoon", 0, 1).make("change", s, 1 + s, s == 4 || s == 6 ? 0 : 3);
        }
        r.due(0, "washFor", 2, 60);
        // THROUGH in HOUR 2, SPOON 4 tells nothing in HOUR 3, or SPOON 6 in HOUR 5: 4 is the least.
        r = new Run();
        for (int s = 0; s < 8; s++) {
            r.make("spoon", 0, s == 6 ? 2 : 1);
        }
        r.make("swallow", 3, 4, 0).make("wash", 3, 4).make("swallow", 5, 6, 1).make("wash", 1, 6);
        r.due(2, "spreads", 6).due(5, "washFor", 2, 6).due(5, "washFor", 2, 4).due(0, "washFor", 2, 3);
        // Of 12 and 11, 11 is least; of 12 alone none is less.
        r.make("known", 4094).due(5, "washFor", 2, 4).make("known", 4095).due(0, "washFor", 2, 4);
        Refused.outside("washFor", 0, 0, 3, 0, 0);
        Refused.outside("washFor", 1, 0, 60, 0, 0);
    }

    private static void kind() {
        Sentence.of("Terms", "KIND for one, n (0 to 60): the KIND as one of which SPREADS by n is least; of several "
            + "the least.");
        // FRESH 8 is READ as any but a CADDY, 9 as any, 4 as all but 2, 5, 6, 2 as 1 and 4 alone.
        int[][] rows = {{9, 0}, {8, 6}, {5, 6}, {4, 2}, {3, 2}, {2, 0}, {1, 0}, {0, 0}};
        for (int[] row : rows) {
            Run r = new Run().make("spoon", 10, 99).make("wash", 0, 0).make("change", 0, 1, row[0]);
            r.due(row[1], "kindFor", 0, 1).due(0, "kindFor", 0, 0).due(1, "ofSpoon", 0, 0);
            // Of 12 and 11, 11 is least; of 12 alone none is less.
            r.make("known", 4094).due(row[1], "kindFor", 0, 1).make("known", 4095).due(0, "kindFor", 0, 1);
        }
        // m as it is: as a MAIDEN of 9 alone it STAYS 6.
        Run r = new Run().text(0, "9*!(k=6)").make("spoon", 9, 50).make("word", 0, 2).make("swallow", 0, 0, 0);
        r.make("wash", 0, 0).due(5, "kindFor", 0, 1).make("become", 0, 8).due(0, "kindFor", 0, 1);
        Refused.outside("kindFor", 1, 0, 60, 0, 0);
    }

    private static void rubbed() {
        Sentence.of("Terms", "RUBBED: a SHEET tells SPREADS by 1, 2, ..: by which SILVER (0 to 99) of one now that "
            + "is so: how many; the least.");
        // One that is THROUGH tells nothing: 0 alone, or all but 0.
        Run r = new Run().make("spoon", 49, 50).make("wash", 0, 0).make("change", 0, 1, 1);
        r.sheet(0, 8, 0).due(1, "rubbed", 0, 0, 0).due(0, "rubbed", 0, 0, 1);
        r.sheet(0, 8, 1).due(99, "rubbed", 0, 0, 0).due(1, "rubbed", 0, 0, 1);
        r.sheet(0, 8, 2).due(0, "rubbed", 0, 0, 0).due(Due.NONE, "rubbed", 0, 0, 1);
        // 99 alone.
        r = new Run().text(0, "9*(s=99)").make("spoon", 0, 50).make("swallow", 0, 0, 5).make("wash", 0, 0);
        r.sheet(0, 8, 1).due(1, "rubbed", 0, 0, 0).due(99, "rubbed", 0, 0, 1);
        r.sheet(0, 8, 0).due(99, "rubbed", 0, 0, 0).due(0, "rubbed", 0, 0, 1).due(50, "ofSpoon", 0, 2);
        // A SHEET of none, and the last of 40 numbers.
        r.sheet(0, 8).due(100, "rubbed", 0, 0, 0).due(0, "rubbed", 0, 0, 1);
        r = new Run().make("spoon", 0, 9).make("sheet", 1, 32, 40).due(100, "rubbed", 1, 0, 0);
        r.make("put", 1, 39, 1).due(0, "rubbed", 1, 0, 0).due(Due.NONE, "rubbed", 1, 0, 1);
        // The first number is SPREADS by 1, not by 0; 12 at most.
        r = new Run().make("spoon", 0, 9).make("change", 0, 1, 3).make("wash", 0, 0).make("known", 4094);
        r.sheet(0, 8, 12).due(99, "rubbed", 0, 0, 0).sheet(0, 8, 11).due(1, "rubbed", 0, 0, 0);
    }

    private static void which() {
        Sentence.of("Terms", "WHICH: likewise: the KINDS (0 to 6; m as it is) by which, were one of that, as a set.");
        Run r = new Run().make("spoon", 4, 50).make("wash", 0, 0).make("change", 0, 1, 1);
        r.sheet(0, 8).due(127, "which", 0, 0).sheet(0, 8, 0).due(127, "which", 0, 0);
        r.sheet(0, 8, 1).due(0, "which", 0, 0);
        // m as it is: a SERVER of 5 READS what is FRESH by 1.
        r.make("become", 0, 5).due(16, "which", 0, 0).sheet(0, 8, 0).due(127 - 16, "which", 0, 0);
        // CADDY alone doesn't READ 8; SPOON alone, by a TEXT, is not THROUGH with 2 SILVER.
        r = new Run().make("spoon", 0, 50).make("wash", 0, 0).make("change", 0, 1, 8);
        r.sheet(0, 8, 0).due(64, "which", 0, 0).sheet(0, 8, 1).due(63, "which", 0, 0);
        r = new Run().text(1, "3-(r=1)*(s=2)*2").make("spoon", 50, 2).make("wash", 0, 0).make("change", 0, 1, 1);
        r.sheet(0, 8, 0).due(1 + 4 + 32, "which", 0, 0).due(5, "ofSpoon", 0, 0);
    }

    private static void clash() {
        Sentence.of("Terms", "CLASH: two SPOONS on both of which a WORD is.");
        for (int w = 0; w < 12; w++) {
            Run r = new Run().make("spoon", 0, 0).make("spoon", 69, 99).make("change", 0, 1 + w, 1);
            r.due(1, "washers").make("change", 1, 1 + (w + 1) % 12, 9).due(1, "washers");
            r.make("change", 1, 1 + w, 1).due(2, "washers").make("change", 0, 1 + w, 0).due(1, "washers");
        }
    }

    private static void washers() {
        Sentence.of("Terms", "WASHERS: the fewest sets of SPOONS, no two of one set CLASHING, with which each SPOON "
            + "is in one.");
        Run r = new Run().due(0, "washers");
        for (int s = 0; s < 8; s++) {
            r.make("spoon", 0, 0).due(1, "washers");
        }
        for (int s = 0; s < 8; s++) {
            r.make("change", s, 12, 1).due(s + 1, "washers");
        }
        // A ring of 5 is in 3, one of 6 in 2, though each takes 2 at most if one is left out.
        r = new Run();
        for (int s = 0; s < 5; s++) {
            r.make("spoon", 0, 5).make("change", s, 1 + s, 1).make("change", s, 1 + (s + 1) % 5, 1);
        }
        r.due(3, "washers").make("change", 0, 1, 0).due(2, "washers");
        // 0 clashes with 2, 2 with 3, 3 with 1: 2 will do, though 0 and 1, if put together, take 3.
        r = new Run();
        int[] words = {1, 4, 3, 6};
        for (int s = 0; s < 4; s++) {
            r.make("spoon", 0, 5);
            for (int w = 0; w < 3; w++) {
                r.make("change", s, 1 + w, words[s] >> w & 1);
            }
        }
        r.due(2, "washers");
    }

    private static void telling() {
        Sentence.of("Terms", "TELLING by a set of WORDS: the fewest SPOONS on which all these are, on any of them, as "
            + "a set; of several the least.");
        Run r = new Run().due(0, "telling", 0).due(Due.NONE, "telling", 1).due(Due.NONE, "telling", 4095);
        for (int s = 0; s < 8; s++) {
            r.make("spoon", 0, 0).make("change", s, 1 + s, 1);
        }
        r.due(0, "telling", 0).due(255, "telling", 255).due(128, "telling", 128).due(Due.NONE, "telling", 256);
        for (int s = 4; s < 8; s++) {
            r.make("change", s, 5 + s, 9);
        }
        r.due(255, "telling", 4095).due(240, "telling", 3840).make("change", 7, 12, 0);
        r.due(Due.NONE, "telling", 4095).due(Due.NONE, "telling", 2048).due(112, "telling", 1792);
        // SPOONS 1 and 6 have both WORDS; 0 and 7 one each: one alone, and the least of the two.
        r = new Run();
        int[] words = {1, 3, 0, 0, 0, 0, 3, 2};
        for (int s = 0; s < 8; s++) {
            r.make("spoon", 0, 5).make("change", s, 1, words[s] & 1).make("change", s, 2, words[s] >> 1);
        }
        r.due(2, "telling", 3).due(1, "telling", 1).due(2, "telling", 2);
        r.make("change", 1, 1, 0).due(64, "telling", 3).make("change", 6, 1, 0).due(3, "telling", 3);
        Refused.outside("telling", 0, 0, 4095, 0);
    }

    private static void gossip() {
        Sentence.of("Terms", "GOSSIP by n (0 to 60): WEIGHT of all that are KNOWN then, together.");
        new Run().due(0, "gossip", 0).due(0, "gossip", 60);
        Run r = new Run().make("known", 4095).due(46, "gossip", 0).due(46, "gossip", 60);
        for (int w = 0; w < 12; w++) {
            r.make("word", w, 9);
        }
        r.due(108, "gossip", 0).due(108, "gossip", 60);
        r.make("known", 2049).due(18, "gossip", 0);
        lastHour(15).due(0, "gossip", 59).due(3, "gossip", 60);
    }

    private static void much() {
        Sentence.of("Terms", "MUCH of one: for how many HOURS (0 to 9) anything stays ON it yet, were it neither "
            + "washed nor any more swallowed.");
        for (int w = 0; w < 12; w++) {
            Run r = new Run().make("spoon", 0, w).make("swallow", 0, 0, w).make("wash", 0, 0).due(0, "much", 0);
            for (int fresh = 1; fresh <= 9; fresh++) {
                r.make("change", 0, 1 + w, fresh).due(fresh, "much", 0);
            }
            r.make("change", 0, 1 + (w + 5) % 12, 4).due(9, "much", 0);
            r.make("change", 0, 1 + w, 0).due(4, "much", 0);
        }
    }

    private static void odds() {
        Sentence.of("Terms", "ODDS by n (0 to 30), a WORD: that it is KNOWN behind n HOURS, the WORD of the SWALLOW "
            + "of this HOUR being 0, 1, .. 11 now, each just as likely: a fraction in lowest terms (0 is 0 by 1).");
        // WORD 11 is told if what is swallowed is one of so many: by two ON it, it is THROUGH.
        int[][] due = {{0, 1}, {1, 12}, {1, 6}, {1, 4}, {1, 3}, {5, 12}, {1, 2}, {7, 12}, {2, 3}, {3, 4}, {5, 6},
            {11, 12}};
        for (int many = 0; many < 12; many++) {
            Run r = new Run().text(0, "w=5").text(1, "n>1").make("spoon", 20, 1).make("change", 0, 12, 2);
            for (int w = 0; w < 12; w++) {
                r.make("word", w, w < many ? 5 : 4);
            }
            r.make("swallow", 0, 0, 8).make("wash", 0, 0);
            r.due(due[many][0], "odds", 1, 11, 0).due(due[many][1], "odds", 1, 11, 1).due(20, "ofSwallow", 0);
            r.due(0, "odds", 0, 11, 0).due(1, "odds", 0, 11, 1);
        }
        new Run().make("known", 2048).due(1, "odds", 0, 11, 0).due(1, "odds", 0, 11, 1).due(1, "odds", 30, 11, 1);
        // HOUR 29 is the last of 30: the 8th WASH, of what has been swallowed just ahead.
        Run r = new Run().make("spoon", 20, 8).make("swallow", 5, 0, 3).make("wash", 1, 0);
        r.due(0, "odds", 29, 3, 0).due(1, "odds", 29, 3, 1).due(1, "odds", 30, 3, 0).due(1, "odds", 30, 3, 1);
        Refused.outside("odds", 0, 0, 30, 0, 0, 0);
        Refused.outside("odds", 2, 0, 1, 0, 0, 0);
    }

    private static int next(int z) {
        return (int) ((z & 0xFFFFFFFFL) * 1103515245L + 12345L);
    }

    private static long drawn(int z) {
        return (z & 0xFFFFFFFFL) / 256;
    }

    private static void draws() {
        Sentence.of("Terms", "HOURS by draws: z is told (1 at first); each makes it z * 1103515245 + 12345 (an int), "
            + "and gives z >>> 8.");
        new Run().due(1, "count", 10).due(1, "seed", 0).make("loose", 1).due(next(next(0)), "count", 10);
        new Run().make("loose", 1).due(next(next(1)), "count", 10);
        for (int z : new int[] {0, 1, -1, 2, 7, MIN, MAX, -12345, 1 << 30, 255, 256, -256}) {
            Run r = new Run().make("seed", z).make("loose", 1).due(next(next(z)), "count", 10);
            long swallow = 12 * (drawn(next(z)) % 8 + 1) + drawn(next(next(z))) % 12;
            r.due(swallow, "ofSwallow", 0).due(0, "ofSwallow", 1).due(0, "ofSwallow", 5);
        }
    }

    private static void looseHours() {
        Sentence.of("Terms", "Each: a draw: the SPOON of the SWALLOW of this HOUR is its rest by 8; another draw: the "
            + "WORD of that is its rest by 12; then an HOUR.");
        Run r = new Run().pass(5);
        int z = 1;
        for (int h = 5; h < 5 + 40; h++) {
            long spoon = drawn(next(z)) % 8;
            z = next(next(z));
            r.make("loose", 1).due(12 * (spoon + 1) + drawn(z) % 12, "ofSwallow", h % 6).due(h + 1, "count", 1);
        }
        // What is drawn is swallowed, and washed, in this HOUR: z 1 draws SPOON 6.
        r = new Run();
        for (int s = 0; s < 8; s++) {
            r.make("spoon", 40, 9);
        }
        r.make("wash", 0, 6).due(1 << drawn(next(next(1))) % 12, "loose", 1).due(7, "ofSpoon", 6, 2);
    }

    private static void voices() {
        Sentence.of("Terms", "VOICES of a SPOON, with a number x (ints that go round); n is the number, m as told: 0 "
            + "shines, 1 dulls, 2 holds, 3 tells.");
        Run r = new Run();
        for (int s = 0; s < 8; s++) {
            r.make("spoon", s == 7 ? 9 : 0, s);
        }
        r.due(MIN + 6, "voice", 7, 0, MAX).due(MAX, "voice", 0, 0, MAX).due(MIN, "voice", 0, 0, MIN);
        r.due(MAX - 8, "voice", 7, 2, MIN).due(MIN, "voice", 0, 2, MIN).due(MAX, "voice", 0, 2, MAX);
        r.due(2 * 7 - 2, "voice", 7, 1, -1).due(0, "voice", 0, 1, MIN).due(-2, "voice", 0, 1, MAX);
        r.due(12 ^ -10, "voice", 7, 3, -1).due(MIN, "voice", 0, 3, MIN).due(-2 ^ MAX, "voice", 0, 3, MAX);
        Refused.outside("voice", 0, 0, 3, 0, 0, 0);
        Refused.outside("voice", 1, 0, 3, 0, 0, 0);
    }

    /** What SPOON 7 of a KIND, with m, answers. */
    private static void says(int due, int km, int act, int x) {
        Run r = new Run();
        for (int s = 0; s < 7; s++) {
            r.make("spoon", 0, 0);
        }
        r.make("spoon", km, 0);
        Due.due("km " + km + ", act " + act + ", x " + x, r.call("voice", 7, act, x), due);
    }

    private static void bodies() {
        Sentence.of("Terms", "BODIES: SPOON: 10 shines: x + n.");
        says(MIN, 0, 0, MAX - 6);
        says(-1, 9, 0, -8);
        Sentence.of("Terms", "11 dulls: shines(x) * 2.");
        says(MIN, 0, 1, (1 << 30) - 7);
        says(0, 0, 1, MIN - 7);
        Sentence.of("Terms", "12 holds: x - m.");
        says(MAX, 9, 2, MIN + 8);
        says(MIN, 0, 2, MIN);
        Sentence.of("Terms", "13 tells: dulls(x) ^ holds(x).");
        says(0 ^ -7 - 9, 9, 3, -7);
        says(MIN ^ (1 << 30) - 7, 0, 3, (1 << 30) - 7);
        Sentence.of("Terms", "FIDDLE: 20 shines: super.shines(x) * 3.");
        says(MIN, 10, 0, MIN - 7);
        says(-3, 19, 0, -8);
        says(1, 10, 0, -1431655765 - 7);
        Sentence.of("Terms", "APOSTLE: 30 dulls: super.dulls(x) - holds(1).");
        says(MAX, 20, 1, (1 << 30) - 7);
        says(-2 - 1 + 9, 29, 1, -8);
        Sentence.of("Terms", "SALT: 40 holds: -super.holds(x).");
        says(MIN, 30, 2, MIN);
        says(-MAX, 30, 2, MAX);
        says(9, 39, 2, 0);
    }

    private static void bodiesUnder() {
        Sentence.of("Terms", "SERVER: 50 tells: super.tells(x) - shines(2).");
        says((0 ^ -7 - 9) - 27, 49, 3, -7);
        says(MAX - 24, 40, 3, MAX - 7);
        Sentence.of("Terms", "MAIDEN: 60 dulls: super.dulls(x + 1).");
        says(2 * (MIN + 7) - 1, 50, 1, MAX);
        says(0 - 1 + 9, 59, 1, -8);
        Sentence.of("Terms", "CADDY: 70 holds: super.holds(x) ^ n.");
        says(MIN ^ 7, 60, 2, MIN);
        says(9 ^ 7, 69, 2, 0);
        Sentence.of("Terms", "71 tells: dulls(x) - super.tells(x).");
        says(0 - (0 ^ (7 + 9 ^ 7)), 69, 3, -7);
        says(MIN - (MIN ^ (7 - (1 << 30) ^ 7)), 60, 3, (1 << 30) - 7);
    }

    private static void nextAbove() {
        Sentence.of("Terms", "shines(..) is the BODY of its KIND, or of the next KIND above that has one; "
            + "super.shines(..) that from the KIND above the BODY's on.");
        int[][][] due = {
            {{10}, {11, 10}, {12}, {13, 11, 10, 12}},
            {{20, 10}, {11, 20, 10}, {12}, {13, 11, 20, 10, 12}},
            {{10}, {30, 11, 10, 12}, {12}, {13, 30, 11, 10, 12, 12}},
            {{10}, {11, 10}, {40, 12}, {13, 11, 10, 40, 12}},
            {{20, 10}, {11, 20, 10}, {12}, {50, 13, 11, 20, 10, 12, 20, 10}},
            {{10}, {60, 30, 11, 10, 12}, {12}, {13, 60, 30, 11, 10, 12, 12}},
            {{10}, {11, 10}, {70, 40, 12}, {71, 11, 10, 13, 11, 10, 70, 40, 12}},
        };
        for (int kind = 0; kind < 7; kind++) {
            Run r = new Run().make("spoon", 10 * kind, 0);
            for (int act = 0; act < 4; act++) {
                r.make("voice", 0, act, 1).due(due[kind][act].length, "count", 9);
                for (int i = 0; i < due[kind][act].length; i++) {
                    r.due(due[kind][act][i], "trace", i);
                }
            }
        }
    }

    private static void trace() {
        Sentence.of("Terms", "THE TRACE: the numbers of BODIES of the latest voice(), as they began (what stands left "
            + "is worked out first), the first 40.");
        // None began yet; 9 is as many as ever do; another voice() begins anew.
        Run r = new Run().make("spoon", 60, 5).due(0, "count", 9).due(Due.NONE, "trace", 0);
        r.make("voice", 0, 3, 1).due(9, "count", 9).due(71, "trace", 0).due(12, "trace", 8).due(Due.NONE, "trace", 9);
        r.due(Due.NONE, "trace", 39).due(Due.NONE, "trace", 40).due(Due.NONE, "trace", -1);
        r.make("voice", 0, 3, 1).due(9, "count", 9).make("voice", 0, 0, 1).due(1, "count", 9).due(10, "trace", 0);
        r.due(Due.NONE, "trace", 1);
        // Left before right.
        r.make("voice", 0, 3, 1).due(11, "trace", 1).due(13, "trace", 3);
        // A refused voice() is not the latest one.
        r.due(Due.BEYOND, "voice", 1, 0, 1).due(Due.BEYOND, "voice", 0, 4, 1).due(9, "count", 9).due(71, "trace", 0);
    }

    private static void sheets() {
        Sentence.of("Terms", "SHEETS 0 .. 3 are rows of 8, 16, 32 bits, at most 40 numbers, or missing (as at "
            + "first).");
        Run r = new Run();
        for (int t = 0; t < 4; t++) {
            r.due(Due.NONE, "put", t, 0, 0).due(Due.NONE, "weights", t).due(Due.NONE, "judge", t);
            r.due(Due.NONE, "move", t, 0, t, 0, 0);
            for (int bits = 8; bits <= 32; bits *= 2) {
                r.due(1, "sheet", t, bits, 40).due(1, "put", t, 39, 1).due(Due.BEYOND, "put", t, 40, 1);
                r.due(Due.BEYOND, "sheet", t, bits, 41).due(1, "sheet", t, bits, 0).due(Due.BEYOND, "put", t, 0, 0);
            }
            r.due(1, "sheet", t, 0, 0).due(Due.NONE, "put", t, 0, 0);
        }
        for (int bits : new int[] {-1, 1, 4, 7, 9, 15, 17, 24, 31, 33, 64, MIN, MAX}) {
            Refused.in(Scene.MIDDLE, Due.BEYOND, "sheet", 0, bits, 1);
        }
        for (String call : new String[] {"weights", "judge"}) {
            Refused.outside(call, 0, 0, 3, 0);
        }
        Refused.outside("sheet", 0, 0, 3, 0, 8, 1);
        Refused.outside("put", 0, 0, 3, 0, 0, 1);
        Refused.outside("move", 0, 0, 3, 0, 0, 0, 0, 1);
        Refused.outside("move", 2, 0, 3, 0, 0, 0, 0, 1);
        Refused.outside("rubbed", 0, 0, 3, 0, 0, 0);
        Refused.outside("which", 0, 0, 3, 0, 0);
    }
}
