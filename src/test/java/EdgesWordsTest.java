/** Edges of promises 1 to 8: a new object; words, what is known, the lists. */
public final class EdgesWordsTest {
    private EdgesWordsTest() {
    }

    public static void main(String[] args) {
        newObject();
        word();
        ofWord();
        known();
        swallow();
        ofSwallow();
        wash();
        ofWash();
        Due.end();
    }

    private static void newObject() {
        Sentence.of("Promise 1", "All as at first; no SPOONS.");
        int[] counts = {0, 0, 0, 0, 0, 46, 0, 0, 0, 0, 1};
        Run r = new Run();
        for (int what = 0; what <= 10; what++) {
            r.due(counts[what], "count", what);
        }
        for (int w = 0; w < 12; w++) {
            r.due(w % 10, "ofWord", w, 0).due(0, "ofWord", w, 1).due(0, "ofWord", w, 2).due(Due.NONE, "when", w);
            r.due(0, "odds", 30, w, 0).due(1, "odds", 30, w, 1);
        }
        for (int p = 0; p < 6; p++) {
            r.due(0, "ofSwallow", p);
        }
        for (int p = 0; p < 4; p++) {
            r.due(0, "ofWash", p).due(0, "washFor", p, 60).due(Due.NONE, "judge", p);
        }
        for (int s = 0; s < 8; s++) {
            r.due(Due.BEYOND, "ofSpoon", s, 0).due(Due.BEYOND, "lasts", s);
        }
        r.due(0, "check").due(0, "washers").due(0, "telling", 0).due(0, "spreads", 60).due(0, "gossip", 60);
        r.due(Due.NONE, "trace", 0).due(Due.NONE, "restore").due(-10, "text", 0).due(-10, "text", 1);
        r.due(5, "law", 0, 5, 1, 1).due(15, "law", 1, 15, 1, 1);
        r = new Run();
        for (int k = 1; k <= 5; k++) {
            r.due(0, "told", k);
        }
        r.due(1, "image").due(1, "tell", 0).due(1, "feed", 0, 1).due(0, "spoon", 0, 0);
    }

    private static void word() {
        Sentence.of("Promise 2", "WEIGHT of a WORD becomes v: what it was.");
        Run r = new Run();
        r.due(0, "word", 0, 9).due(9, "word", 0, 0).due(0, "word", 0, 0).due(1, "word", 11, 9).due(9, "word", 11, 0);
        r.due(0, "ofWord", 0, 0).due(0, "ofWord", 11, 0).due(1, "ofWord", 1, 0).due(0, "ofWord", 10, 0);
        r.due(9, "word", 9, 1).due(0, "word", 10, 2).due(1, "ofWord", 9, 0).due(2, "ofWord", 10, 0);
        Sentence.of("Promise 2", "BEYOND.");
        Refused.outside("word", 0, 0, 11, 0, 1);
        Refused.outside("word", 1, 0, 9, 0, 1);
        Refused.in(Scene.MIDDLE, Due.BEYOND, "word", 12, 10);
    }

    private static void ofWord() {
        Sentence.of("Promise 3", "Of a WORD: what 0 WEIGHT, 1 1 if it is KNOWN, else 0, 2 SPOONS that it is ON, as a "
            + "set.");
        Run r = new Run().make("known", 2049);
        r.due(1, "ofWord", 0, 1).due(1, "ofWord", 11, 1).due(0, "ofWord", 1, 1).due(0, "ofWord", 10, 1);
        r.make("known", 4094 - 2048).due(0, "ofWord", 0, 1).due(0, "ofWord", 11, 1).due(1, "ofWord", 1, 1);
        r.due(1, "ofWord", 11, 0).due(0, "ofWord", 0, 0).due(0, "ofWord", 11, 2);
        for (int s = 0; s < 8; s++) {
            r.make("spoon", 0, 0).due((1 << s) - 1, "ofWord", 11, 2).make("change", s, 12, 1);
        }
        r.due(255, "ofWord", 11, 2).due(0, "ofWord", 0, 2).make("change", 7, 1, 1).due(128, "ofWord", 0, 2);
        r.make("hours", 1).due(0, "ofWord", 11, 2).due(0, "ofWord", 0, 2);
        Sentence.of("Promise 3", "BEYOND.");
        Refused.outside("ofWord", 0, 0, 11, 0, 0);
        Refused.outside("ofWord", 1, 0, 2, 0, 0);
    }

    private static void known() {
        Sentence.of("Promise 4", "KNOWN becomes a set: what it was.");
        Run r = new Run();
        r.due(0, "known", 4095).due(4095, "known", 4095).due(4095, "known", 0).due(0, "known", 2048);
        r.due(2048, "known", 1).due(1, "count", 3).due(1, "count", 2);
        Sentence.of("Promise 4", "BEYOND.");
        Refused.outside("known", 0, 0, 4095, 0);
        Refused.outside(Scene.FULL, "known", 0, 0, 4095, 0);
    }

    private static void swallow() {
        Sentence.of("Promise 5", "The SWALLOW of a place is of a SPOON (-1 to 7) and a WORD: what it was (12 times the "
            + "SPOON and 1, and the WORD).");
        Run r = new Run();
        for (int p = 0; p < 6; p++) {
            r.due(0, "swallow", p, -1, 0).due(0, "swallow", p, -1, 11).due(11, "swallow", p, 0, 0);
            r.due(12, "swallow", p, 0, 11).due(23, "swallow", p, 7, 0).due(96, "swallow", p, 7, 11);
            r.due(107, "swallow", p, p, 11 - p);
        }
        for (int p = 0; p < 6; p++) {
            r.due(12 * (p + 1) + 11 - p, "ofSwallow", p);
        }
        Sentence.of("Promise 5", "BEYOND.");
        Refused.outside("swallow", 0, 0, 5, 0, 0, 0);
        Refused.outside("swallow", 1, -1, 7, 0, 0, 0);
        Refused.outside("swallow", 2, 0, 11, 0, 0, 0);
    }

    private static void ofSwallow() {
        Sentence.of("Promise 6", "The SWALLOW of a place, told likewise.");
        Run r = new Run();
        r.due(0, "ofSwallow", 0).due(0, "ofSwallow", 5).make("swallow", 0, 7, 11).make("swallow", 5, -1, 11);
        r.due(107, "ofSwallow", 0).due(11, "ofSwallow", 5).due(0, "ofSwallow", 1).due(0, "ofSwallow", 4);
        r.make("swallow", 5, 0, 0).due(12, "ofSwallow", 5);
        Sentence.of("Promise 6", "BEYOND.");
        Refused.outside("ofSwallow", 0, 0, 5, 0);
    }

    private static void wash() {
        Sentence.of("Promise 7", "The WASH of a place is of a SPOON (-1 to 7): 1, and what it was.");
        Run r = new Run();
        for (int p = 0; p < 4; p++) {
            r.due(0, "wash", p, -1).due(0, "wash", p, 7).due(8, "wash", p, 0).due(1, "wash", p, -1);
            r.due(0, "wash", p, 7 - p);
        }
        for (int p = 0; p < 4; p++) {
            r.due(8 - p, "ofWash", p);
        }
        Sentence.of("Promise 7", "BEYOND.");
        Refused.outside("wash", 0, 0, 3, 0, 0);
        Refused.outside("wash", 1, -1, 7, 0, 0);
    }

    private static void ofWash() {
        Sentence.of("Promise 8", "1, and the SPOON of the WASH of a place.");
        Run r = new Run();
        r.due(0, "ofWash", 0).due(0, "ofWash", 3).make("wash", 0, 7).make("wash", 3, 0);
        r.due(8, "ofWash", 0).due(1, "ofWash", 3).due(0, "ofWash", 1).due(0, "ofWash", 2);
        r.make("wash", 0, -1).due(0, "ofWash", 0);
        Sentence.of("Promise 8", "BEYOND.");
        Refused.outside("ofWash", 0, 0, 3, 0);
    }
}
