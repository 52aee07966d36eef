/** Edges of number 1 of "Terms": WORDS, SPOONS, SWALLOWS, WASHES, the HOUR. */
public final class EdgesTerms1Test {
    private EdgesTerms1Test() {
    }

    public static void main(String[] args) {
        words();
        weight();
        known();
        hour();
        spoons();
        kinds();
        marks();
        silver();
        fresh();
        stays();
        reads();
        wears();
        others();
        swallows();
        washes();
        swallowOfAnHour();
        swallowByText();
        washOfAnHour();
        silverIsLess();
        through();
        elseHalf();
        less();
        hourIsMore();
        Due.end();
    }

    private static void words() {
        Sentence.of("Terms", "WORDS 0 .. 11, each of WEIGHT (0 to 9; at first what its number leaves by 10).");
        Run r = new Run().make("spoon", 30, 50).make("change", 0, 1, 1).make("change", 0, 12, 1);
        r.due(0, "word", 0, 5).due(1, "word", 11, 5);
        r.due(1, "ofWord", 0, 2).due(1, "ofWord", 11, 2);
        r.due(0, "swallow", 0, 0, 0).due(12, "swallow", 0, 0, 11).due(23, "ofSwallow", 0);
        r.make("known", 2049).due(0, "when", 0).due(0, "when", 11);
        r.due(1, "odds", 0, 0, 0).due(1, "odds", 0, 11, 0);
        r.due(2049, "ofSpoon", 0, 3).due(1, "telling", 2049);
        Refused.outside("word", 0, 0, 11, 0, 5);
        Refused.outside("ofWord", 0, 0, 11, 0, 0);
        Refused.outside("swallow", 2, 0, 11, 0, 0, 0);
        Refused.outside("when", 0, 0, 11, 0);
        Refused.outside("odds", 1, 0, 11, 0, 0, 0);
    }

    private static void weight() {
        Sentence.of("Terms", "WORDS 0 .. 11, each of WEIGHT (0 to 9; at first what its number leaves by 10).");
        Run r = new Run();
        int[] first = {0, 1, 2, 3, 4, 5, 6, 7, 8, 9, 0, 1};
        for (int w = 0; w < 12; w++) {
            r.due(first[w], "ofWord", w, 0);
        }
        r.due(46, "count", 5);
        r.due(9, "word", 9, 0).due(0, "word", 9, 9).due(9, "ofWord", 9, 0);
        Refused.outside("word", 1, 0, 9, 2, 0);
    }

    private static void known() {
        Sentence.of("Terms", "KNOWN: a set of WORDS (0 to 4095; none at first).");
        Run r = new Run();
        r.due(0, "count", 3).due(0, "count", 2);
        r.due(0, "known", 4095).due(12, "count", 2).due(4095, "known", 0).due(0, "count", 2);
        Refused.outside("known", 0, 0, 4095, 0);
    }

    private static void hour() {
        Sentence.of("Terms", "HOUR (0 to 9999; 0 at first).");
        Run r = new Run().due(0, "count", 1).pass(9960).due(9960, "count", 1);
        r.due(0, "hours", 39).due(9999, "count", 1);
        r.due(Due.STATE, "hours", 1).due(Due.STATE, "loose", 1).due(9999, "count", 1);
    }

    private static void spoons() {
        Sentence.of("Terms", "SPOONS 0, 1, .. (at most 8)");
        Run r = new Run().due(0, "count", 0);
        for (int s = 0; s < 8; s++) {
            r.due(Due.BEYOND, "ofSpoon", s, 2).due(s, "spoon", 0, s + 1).due(s + 1, "count", 0);
        }
        r.due(Due.FULL, "spoon", 0, 1).due(8, "count", 0);
        for (int s = 0; s < 8; s++) {
            r.due(s + 1, "ofSpoon", s, 2);
        }
        r.due(Due.BEYOND, "ofSpoon", 8, 2).due(Due.BEYOND, "ofSpoon", -1, 2);
    }

    private static void kinds() {
        Sentence.of("Terms", "of KINDS: 0 SPOON; 1 FIDDLE, 2 APOSTLE, 3 SALT under SPOON; 4 SERVER under "
            + "FIDDLE; 5 MAIDEN under APOSTLE; 6 CADDY under SALT:");
        int[][] ways = {{0}, {1, 0}, {2, 0}, {3, 0}, {4, 1, 0}, {5, 2, 0}, {6, 3, 0}};
        Run r = new Run();
        for (int kind = 0; kind < 7; kind++) {
            r.due(kind, "spoon", 10 * kind + 9 - kind, 5).due(kind, "ofSpoon", kind, 0);
            int asMany = 0;
            for (int as = 0; as < 7; as++) {
                boolean is = false;
                for (int k : ways[kind]) {
                    is |= k == as;
                }
                asMany += is ? 1 : 0;
                r.due(is ? 9 - kind : Due.KIND, "as", kind, as);
            }
            Due.due("KINDS on the way of " + kind, asMany, ways[kind].length);
        }
        r.due(Due.BEYOND, "as", 0, -1).due(Due.BEYOND, "as", 0, 7);
    }

    private static void marks() {
        Sentence.of("Terms", "with a number m (0 to 9),");
        Run r = new Run().make("spoon", 60, 5).make("spoon", 69, 5).make("spoon", 0, 5).make("spoon", 9, 5);
        r.due(0, "ofSpoon", 0, 1).due(9, "ofSpoon", 1, 1).due(0, "ofSpoon", 2, 1).due(9, "ofSpoon", 3, 1);
        r.due(6, "ofSpoon", 0, 0).due(6, "ofSpoon", 1, 0).due(0, "ofSpoon", 2, 0).due(0, "ofSpoon", 3, 0);
        r.due(0, "become", 3, 10).due(0, "ofSpoon", 3, 1).due(1, "ofSpoon", 3, 0);
    }

    private static void silver() {
        Sentence.of("Terms", "SILVER (0 to 99; THROUGH, if 0),");
        Run r = new Run().make("spoon", 0, 0).make("spoon", 0, 99).make("spoon", 0, 1);
        r.due(0, "ofSpoon", 0, 2).due(99, "ofSpoon", 1, 2);
        r.due(0, "lasts", 0).due(Due.NONE, "lasts", 1).due(Due.NONE, "lasts", 2);
        r.due(1, "change", 2, 0, 0).due(0, "lasts", 2).due(0, "change", 2, 0, 99).due(Due.NONE, "lasts", 2);
        Refused.outside("spoon", 1, 0, 99, 0, 0);
        Refused.outside("change", 2, 0, 99, 0, 0, 0);
    }

    private static void fresh() {
        Sentence.of("Terms", "and for each of the WORDS how FRESH that is on it (0 to 9; 0 at first; ON it, if "
            + "above 0).");
        Run r = new Run().make("spoon", 0, 0);
        for (int w = 0; w < 12; w++) {
            r.due(0, "ofSpoon", 0, 5 + w).due(0, "ofWord", w, 2);
            r.due(0, "change", 0, 1 + w, 9).due(9, "ofSpoon", 0, 5 + w).due(1 << w, "ofSpoon", 0, 3);
            r.due(9, "change", 0, 1 + w, 1).due(1 << w, "ofSpoon", 0, 3).due(1, "ofWord", w, 2);
            r.due(1, "change", 0, 1 + w, 0).due(0, "ofSpoon", 0, 3).due(0, "ofWord", w, 2);
        }
        for (int w = 0; w < 12; w += 11) {
            Refused.outside("change", 2, 0, 9, 1, 1 + w, 0);
        }
    }

    /** How long a WORD STAYS, by a TEXT that gives 5 for this number alone. */
    private static void staysFor(int due, int km, int silver, int weight) {
        Run r = new Run().text(0, "(k=" + due + ")*5").make("spoon", km, silver);
        r.make("word", 6, weight).make("swallow", 0, 0, 6).make("hours", 1);
        Due.due("km " + km + ", SILVER " + silver + ", WEIGHT " + weight + " STAYS " + due,
            r.call("ofSpoon", 0, 11), 4);
    }

    private static void stays() {
        Sentence.of("Terms", "STAYS (for a WORD of WEIGHT w, by SILVER s): SPOON: 3.");
        staysFor(3, 0, 1, 0);
        staysFor(3, 9, 99, 9);
        Sentence.of("Terms", "FIDDLE: as SPOON, and half (cut) of w.");
        int[] fiddle = {3, 3, 4, 4, 5, 5, 6, 6, 7, 7};
        for (int w = 0; w <= 9; w++) {
            staysFor(fiddle[w], w % 2 == 0 ? 10 : 19, w == 0 ? 99 : w, w);
        }
        Sentence.of("Terms", "SALT: w.");
        for (int w = 0; w <= 9; w++) {
            staysFor(w, w % 2 == 0 ? 30 : 39, w == 0 ? 99 : w, w);
        }
        Run r = new Run().make("spoon", 30, 5).make("swallow", 0, 0, 0).make("hours", 1);
        r.due(0, "ofSpoon", 0, 3);
        Sentence.of("Terms", "SERVER: twice as FIDDLE.");
        for (int w = 0; w <= 9; w++) {
            staysFor(2 * fiddle[w], w % 2 == 0 ? 49 : 40, w == 0 ? 99 : w, w);
        }
        Sentence.of("Terms", "MAIDEN: as APOSTLE, and a third (cut) of m.");
        int[] maiden = {3, 3, 3, 4, 4, 4, 5, 5, 5, 6};
        for (int m = 0; m <= 9; m++) {
            staysFor(maiden[m], 50 + m, m == 0 ? 99 : m, 9 - m);
        }
        Sentence.of("Terms", "CADDY: 9, if s is below 10, else as SALT.");
        staysFor(9, 60, 1, 0);
        staysFor(9, 69, 9, 0);
        staysFor(0, 69, 10, 0);
        staysFor(9, 60, 10, 9);
        staysFor(4, 60, 10, 4);
        staysFor(4, 60, 99, 4);
        staysFor(9, 60, 9, 4);
    }

    /** How FRESH a WORD must be to be READ: one less is not; what is not ON it never is. */
    private static void readsFrom(int due, int km) {
        for (int fresh = 0; fresh <= 9; fresh++) {
            Run r = new Run().make("spoon", km, 99).make("wash", 0, 0).make("change", 0, 12, fresh);
            Due.due("km " + km + ", FRESH " + fresh, r.call("hours", 1), fresh >= due ? 2048 : 0);
        }
    }

    private static void reads() {
        Sentence.of("Terms", "READ (how FRESH a WORD must be at least for that): SPOON: 3.");
        readsFrom(3, 0);
        readsFrom(3, 9);
        Sentence.of("Terms", "FIDDLE: 2.");
        readsFrom(2, 10);
        readsFrom(2, 19);
        Sentence.of("Terms", "APOSTLE: 5.");
        readsFrom(5, 20);
        readsFrom(5, 29);
        Sentence.of("Terms", "SERVER: as FIDDLE, but any that is ON it, if m is above 4.");
        readsFrom(2, 40);
        readsFrom(2, 44);
        readsFrom(1, 45);
        readsFrom(1, 49);
        Sentence.of("Terms", "CADDY: 9.");
        readsFrom(9, 60);
        readsFrom(9, 69);
    }

    /** What it WEARS with 0 to 12 WORDS ON it, without a TEXT and with one: what is held hides less then. */
    private static void wearsBy(int km, int[] due) {
        Run r = new Run().make("spoon", km, 99);
        Run byText = new Run().make("spoon", km, 99).text(1, "r+5");
        for (int n = 0; n <= 12; n++) {
            Due.due("km " + km + " with " + n, r.call("ofSpoon", 0, 4), due[n]);
            Due.due("km " + km + " with " + n + ", and 5", byText.call("ofSpoon", 0, 4), due[n] + 5);
            if (n < 12) {
                r.make("change", 0, 1 + n, n % 2 == 0 ? 1 : 9);
                byText.make("change", 0, 1 + n, n % 2 == 0 ? 9 : 1);
            }
        }
    }

    private static int[] always(int v) {
        return new int[] {v, v, v, v, v, v, v, v, v, v, v, v, v};
    }

    private static void wears() {
        Sentence.of("Terms", "WEARS (by how many WORDS n are ON it): SPOON: 1.");
        wearsBy(0, always(1));
        Sentence.of("Terms", "FIDDLE: as SPOON, and 1.");
        wearsBy(19, always(2));
        Sentence.of("Terms", "SALT: 3.");
        wearsBy(30, always(3));
        Sentence.of("Terms", "MAIDEN: 0, if n is 0, else as APOSTLE.");
        wearsBy(59, new int[] {0, 1, 1, 1, 1, 1, 1, 1, 1, 1, 1, 1, 1});
        Sentence.of("Terms", "CADDY: as SALT, and n.");
        wearsBy(60, new int[] {3, 4, 5, 6, 7, 8, 9, 10, 11, 12, 13, 14, 15});
    }

    private static void others() {
        Sentence.of("Terms", "(Others as the KIND above.)");
        staysFor(3, 20, 1, 9);
        staysFor(3, 29, 99, 0);
        readsFrom(3, 30);
        readsFrom(3, 39);
        readsFrom(5, 50);
        readsFrom(5, 59);
        wearsBy(29, always(1));
        wearsBy(49, always(2));
    }

    private static void swallows() {
        Sentence.of("Terms", "SWALLOWS: places 0 to 5 (that of an HOUR is its rest by 6), each a SPOON (0 to 7, "
            + "-1: none, at first) and a WORD (0 at first).");
        Run r = new Run();
        for (int p = 0; p < 6; p++) {
            r.due(0, "ofSwallow", p).due(0, "swallow", p, 7, 11).due(107, "swallow", p, -1, 11);
            r.due(11, "swallow", p, 0, 0).due(12, "swallow", p, 7, p);
        }
        for (int p = 0; p < 6; p++) {
            r.due(96 + p, "ofSwallow", p);
        }
        for (int s = 0; s < 8; s++) {
            r.make("spoon", 0, 9);
        }
        // The HOURS go round: 5, 6 and 11, 12 are at places 5, 0 and 5, 0.
        for (int h = 0; h < 14; h++) {
            r.make("hours", 1).due(2, "ofSpoon", 7, 5 + h % 6);
            r.due(h == 0 ? 0 : 1, "ofSpoon", 7, 5 + (h + 5) % 6).due(0, "ofSpoon", 7, 5 + (h + 1) % 6);
        }
        Refused.outside("swallow", 0, 0, 5, 0, 0, 0);
        Refused.outside("swallow", 1, -1, 7, 0, 0, 0);
        Refused.outside("ofSwallow", 0, 0, 5, 0);
    }

    private static void washes() {
        Sentence.of("Terms", "WASHES: places 0 to 3 (that of an HOUR is its rest by 4), each a SPOON (0 to 7, -1: "
            + "none, at first).");
        Run r = new Run();
        for (int p = 0; p < 4; p++) {
            r.due(0, "ofWash", p).due(0, "wash", p, 7).due(8, "wash", p, -1).due(0, "wash", p, 0);
            r.due(1, "wash", p, 4 + p).due(5 + p, "ofWash", p);
        }
        for (int s = 0; s < 8; s++) {
            r.make("spoon", 0, 9);
        }
        // The HOURS go round: 3, 4 and 7, 8 are at places 3, 0 and 3, 0.
        for (int h = 0; h < 9; h++) {
            r.make("hours", 1);
            for (int s = 4; s < 8; s++) {
                r.due(9 - (h + 8 - s) / 4, "ofSpoon", s, 2);
            }
        }
        r.due(4 * 9 + 4 * 9 - 9, "count", 4);
        Refused.outside("wash", 0, 0, 3, 0, 0);
        Refused.outside("wash", 1, -1, 7, 0, 0);
        Refused.outside("ofWash", 0, 0, 3, 0);
    }

    private static void swallowOfAnHour() {
        Sentence.of("Terms", "An HOUR: (1) The SWALLOW of the place: if there is that SPOON, and it isn't THROUGH: "
            + "its WORD is as FRESH on it as the one TEXT gives, if that is more than it is.");
        // There is no such SPOON; there is none told.
        Run r = new Run().make("spoon", 0, 9).make("swallow", 0, 1, 0).make("swallow", 1, 7, 0).make("hours", 3);
        r.due(0, "ofSpoon", 0, 3).due(1, "spoon", 0, 9).due(0, "ofSpoon", 1, 3);
        r.make("hours", 3).make("hours", 1).due(1, "ofSpoon", 1, 3).due(0, "ofSpoon", 0, 3);
        // It is THROUGH, or just not.
        r = new Run().make("spoon", 0, 0).make("swallow", 0, 0, 11).make("hours", 1).due(0, "ofSpoon", 0, 3);
        r = new Run().make("spoon", 0, 1).make("swallow", 0, 0, 11).make("hours", 1).due(2, "ofSpoon", 0, 16);
        // One less, as much, one more than it is: 3.
        int[][] rows = {{0, 2}, {2, 2}, {3, 2}, {4, 3}, {9, 8}};
        for (int[] row : rows) {
            r = new Run().make("spoon", 0, 5).make("swallow", 0, 0, 0).make("change", 0, 1, row[0]);
            r.make("hours", 1).due(row[1], "ofSpoon", 0, 5).due(1, "ofSpoon", 0, 3);
        }
    }

    private static void swallowByText() {
        // Held to 9, to 0; what gives 0 leaves what is there.
        Run r = new Run().make("spoon", 40, 5).make("word", 0, 9).make("swallow", 0, 0, 0);
        r.make("hours", 1).due(8, "ofSpoon", 0, 5);
        r = new Run().text(0, "9999").make("spoon", 0, 5).make("swallow", 0, 0, 0);
        r.make("hours", 1).due(8, "ofSpoon", 0, 5);
        for (String none : new String[] {"0", "0-9999", "1"}) {
            r = new Run().text(0, none).make("spoon", 0, 5).make("swallow", 0, 0, 0);
            r.make("hours", 1).due(0, "ofSpoon", 0, 5).make("change", 0, 1, 9);
            r.pass(5).due(4, "ofSpoon", 0, 5).make("hours", 1).due(3, "ofSpoon", 0, 5);
        }
    }

    private static void washOfAnHour() {
        Sentence.of("Terms", "(2) The WASH of the place: if there is that SPOON, and it isn't THROUGH: each WORD "
            + "that is ON it and may be READ is KNOWN;");
        // There is no such SPOON; there is none told.
        Run r = new Run().make("spoon", 0, 9).make("change", 0, 1, 9).make("wash", 0, 1).make("wash", 1, 7);
        r.due(0, "hours", 4).due(9, "ofSpoon", 0, 2).due(5, "ofSpoon", 0, 5);
        // It is THROUGH: none is KNOWN, none is half as FRESH.
        r = new Run().make("spoon", 49, 0).make("change", 0, 1, 9).make("wash", 0, 0);
        r.due(0, "hours", 1).due(0, "ofSpoon", 0, 2).due(8, "ofSpoon", 0, 5);
        r.due(0, "hours", 8).due(0, "ofSpoon", 0, 5).due(0, "count", 3);
        // Any that is ON it is any but those of 0; the first, the last, all WORDS.
        r = new Run().make("spoon", 49, 99).make("wash", 0, 0).make("change", 0, 1, 1).make("change", 0, 12, 1);
        r.due(2049, "hours", 1);
        r = new Run().make("spoon", 49, 99).make("wash", 0, 0).due(0, "hours", 1);
        for (int w = 0; w < 12; w++) {
            r.make("change", 0, 1 + w, 9);
        }
        r.make("wash", 1, 0).due(4095, "hours", 1);
        // What is KNOWN already stays so.
        r = new Run().make("spoon", 0, 99).make("wash", 0, 0).make("known", 2049).make("change", 0, 1, 9);
        r.due(2049, "hours", 1);
        // What the same HOUR swallows is washed.
        r = new Run().make("spoon", 0, 99).make("wash", 0, 0).make("swallow", 0, 0, 4);
        r.due(16, "hours", 1);
    }

    private static void silverIsLess() {
        Sentence.of("Terms", "SILVER is less by what the other TEXT gives (0 at least);");
        // A SALT wears 3.
        int[][] rows = {{99, 96}, {4, 1}, {3, 0}, {2, 0}, {1, 0}, {0, 0}};
        for (int[] row : rows) {
            Run r = new Run().make("spoon", 30, row[0]).make("wash", 0, 0).make("hours", 1);
            r.due(row[1], "ofSpoon", 0, 2);
        }
        // A TEXT gives 0 to 20.
        Object[][] texts = {{"0", 30, 30}, {"0-1", 30, 30}, {"20", 30, 10}, {"21", 30, 10}, {"9999", 20, 0},
            {"9999", 21, 1}, {"s", 20, 0}, {"s-1", 20, 1}, {"0", 1, 1}};
        for (Object[] row : texts) {
            Run r = new Run().text(1, (String) row[0]).make("spoon", 0, (Integer) row[1]).make("wash", 0, 0);
            r.make("hours", 1).due((Integer) row[2], "ofSpoon", 0, 2);
        }
        // A MAIDEN with nothing ON it wears 0.
        Run r = new Run().make("spoon", 50, 1).make("wash", 0, 0).make("hours", 1).due(1, "ofSpoon", 0, 2);
        r.pass(3).make("change", 0, 1, 1).due(1, "hours", 1).due(0, "ofSpoon", 0, 2);
    }

    private static void through() {
        Sentence.of("Terms", "if it is THROUGH then: all WORDS ON it are KNOWN, and none is ON it;");
        Run r = new Run().make("spoon", 69, 6).make("wash", 0, 0);
        r.make("change", 0, 1, 1).make("change", 0, 5, 8).make("change", 0, 12, 1);
        r.due(1 + 16 + 2048, "hours", 1).due(0, "ofSpoon", 0, 2).due(0, "ofSpoon", 0, 3);
        // One SILVER is left.
        r = new Run().make("spoon", 69, 7).make("wash", 0, 0);
        r.make("change", 0, 1, 1).make("change", 0, 5, 8).make("change", 0, 12, 1);
        r.due(0, "hours", 1).due(1, "ofSpoon", 0, 2).due(16, "ofSpoon", 0, 3).due(3, "ofSpoon", 0, 9);
        // With nothing ON it.
        r = new Run().make("spoon", 0, 1).make("wash", 0, 0).due(0, "hours", 1).due(0, "ofSpoon", 0, 2);
        // All WORDS.
        r = new Run().make("spoon", 0, 1).make("wash", 0, 0);
        for (int w = 0; w < 12; w++) {
            r.make("change", 0, 1 + w, 1);
        }
        r.due(4095, "hours", 1).due(0, "ofSpoon", 0, 3);
        // One that was made THROUGH by hand tells nothing.
        r = new Run().make("spoon", 0, 9).make("wash", 0, 0).make("change", 0, 1, 9).make("change", 0, 0, 0);
        r.due(0, "count", 3).due(0, "hours", 60);
    }

    private static void elseHalf() {
        Sentence.of("Terms", "else each WORD is half (cut) as FRESH on it.");
        // Then 1 less FRESH, as all.
        int[] due = {0, 0, 0, 0, 1, 1, 2, 2, 3, 3};
        for (int fresh = 0; fresh <= 9; fresh++) {
            Run r = new Run().make("spoon", 0, 9).make("wash", 0, 0);
            r.make("change", 0, 1, fresh).make("change", 0, 7, 9).make("change", 0, 12, 9 - fresh);
            r.make("hours", 1).due(due[fresh], "ofSpoon", 0, 5).due(3, "ofSpoon", 0, 11);
            r.due(due[9 - fresh], "ofSpoon", 0, 16);
        }
        // One that is not washed is not half as FRESH.
        Run r = new Run().make("spoon", 0, 9).make("spoon", 0, 9).make("wash", 0, 1).make("change", 0, 1, 9);
        r.make("hours", 1).due(8, "ofSpoon", 0, 5);
    }

    private static void less() {
        Sentence.of("Terms", "(3) On all SPOONS each WORD is 1 less FRESH (0 at least).");
        Run r = new Run();
        for (int s = 0; s < 8; s++) {
            r.make("spoon", 10 * (s % 7), s);
            for (int w = 0; w < 12; w++) {
                r.make("change", s, 1 + w, (s + w) % 10);
            }
        }
        r.make("hours", 1);
        for (int s = 0; s < 8; s++) {
            for (int w = 0; w < 12; w++) {
                r.due(Math.max(0, (s + w) % 10 - 1), "ofSpoon", s, 5 + w);
            }
        }
        r.make("hours", 8);
        r.due(0, "count", 6).due(0, "count", 3);
    }

    private static void hourIsMore() {
        Sentence.of("Terms", "HOUR is 1 more.");
        Run r = new Run().due(0, "count", 1).make("hours", 1).due(1, "count", 1).make("hours", 60);
        r.due(61, "count", 1).make("loose", 1).due(62, "count", 1).make("loose", 40).due(102, "count", 1);
    }
}
