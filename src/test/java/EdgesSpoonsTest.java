/** Edges of promises 9 to 13: spoons. */
public final class EdgesSpoonsTest {
    private EdgesSpoonsTest() {
    }

    public static void main(String[] args) {
        spoon();
        spoonFull();
        ofSpoon();
        change();
        changeBeyond();
        become();
        as();
        asKind();
        Due.end();
    }

    private static void spoon() {
        Sentence.of("Promise 9", "A SPOON (km: 10 times the KIND, and m) with SILVER: its number.");
        int[][] made = {{0, 0}, {69, 99}, {9, 1}, {10, 98}, {60, 0}, {59, 99}, {30, 10}, {29, 9}};
        Run r = new Run();
        for (int s = 0; s < 8; s++) {
            r.due(s, "spoon", made[s][0], made[s][1]);
        }
        for (int s = 0; s < 8; s++) {
            r.due(made[s][0] / 10, "ofSpoon", s, 0).due(made[s][0] % 10, "ofSpoon", s, 1);
            r.due(made[s][1], "ofSpoon", s, 2).due(0, "ofSpoon", s, 3);
        }
        // Its number has been another's, ahead of an IMAGE that lacks it: nothing of that is left.
        r = new Run().make("image").make("spoon", 45, 9).make("change", 0, 1, 9).make("change", 0, 12, 1);
        r.make("restore").due(0, "count", 0).due(0, "spoon", 12, 3).due(0, "ofSpoon", 0, 3).due(3, "ofSpoon", 0, 2);
        r.due(0, "ofSpoon", 0, 5).due(0, "ofSpoon", 0, 16).due(0, "count", 6);
        Sentence.of("Promise 9", "BEYOND.");
        Refused.outside("spoon", 0, 0, 69, 0, 5);
        Refused.outside("spoon", 1, 0, 99, 0, 5);
        Refused.outside(Scene.FULL, "spoon", 0, 0, 69, 0, 5);
        Refused.outside(Scene.FULL, "spoon", 1, 0, 99, 0, 5);
    }

    private static void spoonFull() {
        Sentence.of("Promise 9", "FULL.");
        Refused.in(Scene.FULL, Due.FULL, "spoon", 0, 0);
        Refused.in(Scene.FULL, Due.FULL, "spoon", 69, 99);
        Run r = new Run();
        for (int s = 0; s < 7; s++) {
            r.make("spoon", 0, 1);
        }
        r.make("image").due(7, "spoon", 0, 1).due(Due.FULL, "spoon", 0, 1).make("restore").due(7, "spoon", 0, 1);
    }

    private static void ofSpoon() {
        Sentence.of("Promise 10", "Of a SPOON: 0 KIND, 1 m, 2 SILVER, 3 WORDS ON it, as a set, 4 what the TEXT of RUB "
            + "gives for it now, 5 to 16 how FRESH WORDS 0 to 11 are on it.");
        Run r = new Run().make("spoon", 0, 0).make("spoon", 69, 99);
        int[] least = {0, 0, 0, 0, 1};
        for (int what = 0; what <= 16; what++) {
            r.due(what < 5 ? least[what] : 0, "ofSpoon", 0, what);
        }
        for (int w = 0; w < 12; w++) {
            r.make("change", 1, 1 + w, 9);
        }
        int[] most = {6, 9, 99, 4095, 15};
        for (int what = 0; what <= 16; what++) {
            r.due(what < 5 ? most[what] : 9, "ofSpoon", 1, what);
        }
        r.make("change", 1, 1, 1).make("change", 1, 12, 0).due(2047, "ofSpoon", 1, 3).due(14, "ofSpoon", 1, 4);
        r.due(1, "ofSpoon", 1, 5).due(0, "ofSpoon", 1, 16).due(9, "ofSpoon", 1, 15);
        // The TEXT is held within 0 to 20, and asked for one that is THROUGH as well.
        r.text(1, "s-79").due(20, "ofSpoon", 1, 4).due(0, "ofSpoon", 0, 4).text(1, "s-80").due(19, "ofSpoon", 1, 4);
        r.text(1, "s-78").due(20, "ofSpoon", 1, 4).text(1, "n+r").due(1, "ofSpoon", 0, 4).due(20, "ofSpoon", 1, 4);
        Sentence.of("Promise 10", "BEYOND.");
        Refused.outside("ofSpoon", 0, 0, 3, 0, 0);
        Refused.outside("ofSpoon", 1, 0, 16, 0, 0);
        Refused.outside(Scene.FULL, "ofSpoon", 0, 0, 7, 0, 0);
        Refused.outside(Scene.BARE, "ofSpoon", 0, 0, -1, 0, 0);
    }

    private static void change() {
        Sentence.of("Promise 11", "SILVER (what 0), how FRESH WORD what less 1 is on it (1 to 12; 0 to 9) of a SPOON "
            + "becomes v: what it was.");
        Run r = new Run().make("spoon", 0, 7).make("spoon", 0, 8);
        r.due(7, "change", 0, 0, 0).due(0, "change", 0, 0, 99).due(99, "change", 0, 0, 99).due(8, "ofSpoon", 1, 2);
        for (int what = 1; what <= 12; what++) {
            r.due(0, "change", 1, what, 9).due(9, "ofSpoon", 1, 4 + what).due(1 << what - 1, "ofSpoon", 1, 3);
            r.due(9, "change", 1, what, 1).due(1, "change", 1, what, 0).due(0, "ofSpoon", 1, 3);
        }
        // One that is THROUGH: its WORDS are not told by that, and may be changed yet.
        r.make("change", 1, 1, 9).due(8, "change", 1, 0, 0).due(0, "count", 3).due(9, "ofSpoon", 1, 5);
        r.due(0, "change", 1, 12, 9).due(2049, "ofSpoon", 1, 3);
    }

    private static void changeBeyond() {
        Sentence.of("Promise 11", "BEYOND.");
        Refused.outside("change", 0, 0, 3, 0, 0, 1);
        Refused.outside("change", 1, 0, 12, 0, 0, 1);
        Refused.outside("change", 2, 0, 99, 0, 0, 1);
        Refused.outside("change", 2, 0, 9, 0, 1, 1);
        Refused.outside("change", 2, 0, 9, 0, 12, 1);
        Refused.in(Scene.MIDDLE, Due.BEYOND, "change", 0, 1, 99);
        Refused.outside(Scene.FULL, "change", 0, 0, 7, 0, 0, 1);
        Refused.outside(Scene.BARE, "change", 0, 0, -1, 0, 0, 1);
    }

    private static void become() {
        Sentence.of("Promise 12", "A SPOON becomes one of a KIND, with m (km): the KIND that it was.");
        Run r = new Run();
        for (int s = 0; s < 8; s++) {
            r.make("spoon", 25, 7).make("change", s, 1 + s, 9);
        }
        int[] km = {0, 69, 9, 60, 10, 59, 30, 39};
        for (int s = 0; s < 8; s++) {
            r.due(2, "become", s, km[s]).due(km[s] / 10, "ofSpoon", s, 0).due(km[s] % 10, "ofSpoon", s, 1);
            r.due(7, "ofSpoon", s, 2).due(1 << s, "ofSpoon", s, 3).due(9, "ofSpoon", s, 5 + s);
        }
        r.due(0, "become", 0, 69).due(6, "become", 0, 69).due(6, "become", 0, 0).due(3, "become", 7, 38);
        r.due(0, "ofSpoon", 0, 0).due(3, "ofSpoon", 7, 0).due(8, "ofSpoon", 7, 1).due(9, "ofSpoon", 6, 11);
        Sentence.of("Promise 12", "BEYOND.");
        Refused.outside("become", 0, 0, 3, 0, 0);
        Refused.outside("become", 1, 0, 69, 0, 0);
        Refused.outside(Scene.FULL, "become", 0, 0, 7, 0, 0);
    }

    private static void as() {
        Sentence.of("Promise 13", "A SPOON as one of a KIND: m.");
        Run r = new Run().make("spoon", 0, 9).make("spoon", 69, 0);
        r.due(0, "as", 0, 0).due(9, "as", 1, 0).due(9, "as", 1, 3).due(9, "as", 1, 6);
        Sentence.of("Promise 13", "BEYOND.");
        Refused.outside("as", 0, 0, 3, 0, 0);
        Refused.outside("as", 1, 0, 6, 0, 0);
        Refused.outside(Scene.FULL, "as", 0, 0, 7, 0, 0);
    }

    private static void asKind() {
        Sentence.of("Promise 13", "KIND: it isn't of that KIND, nor of one under it.");
        // One above is none of those under it; one beside is none of the other.
        int[][] isnt = {{0, 1}, {0, 2}, {0, 3}, {0, 4}, {0, 5}, {0, 6}, {1, 2}, {1, 3}, {1, 4}, {1, 5}, {1, 6},
            {2, 1}, {2, 3}, {2, 4}, {2, 5}, {2, 6}, {3, 1}, {3, 2}, {3, 4}, {3, 5}, {3, 6}, {4, 2}, {4, 3}, {4, 5},
            {4, 6}, {5, 1}, {5, 3}, {5, 4}, {5, 6}, {6, 1}, {6, 2}, {6, 4}, {6, 5}};
        for (int[] row : isnt) {
            new Run().make("spoon", 10 * row[0] + 5, 9).due(Due.KIND, "as", 0, row[1]).due(1, "told", 5);
        }
        Refused.in(Scene.MIDDLE, Due.KIND, "as", 0, 6);
        Refused.in(Scene.MIDDLE, Due.KIND, "as", 3, 4);
    }
}
