/** Edges of promises 33 to 46: draws, voices, sheets, images, what is told. */
public final class EdgesRestTest {
    private static final int MAX = Integer.MAX_VALUE;
    private static final int MIN = Integer.MIN_VALUE;

    private EdgesRestTest() {
    }

    public static void main(String[] args) {
        seed();
        voice();
        trace();
        sheet();
        sheetErrors();
        put();
        putErrors();
        move();
        moveErrors();
        weights();
        weightsErrors();
        judge();
        judgeErrors();
        image();
        imageKeeps();
        imageKeepsFullRows();
        imageLeavesOut();
        restore();
        tell();
        check();
        count();
        told();
        Due.end();
    }

    private static void seed() {
        Sentence.of("Promise 33", "z becomes v: what it was (any number).");
        Run r = new Run();
        int was = 1;
        for (int v : new int[] {0, -1, MIN, MAX, Due.BEYOND, Due.NONE, Due.STATE, Due.FULL, Due.KIND, Due.LOW, 1}) {
            r.due(was, "seed", v).due(v, "count", 10);
            was = v;
        }
        for (int k = 1; k <= 5; k++) {
            r.due(0, "told", k);
        }
    }

    private static void voice() {
        Sentence.of("Promise 34", "A VOICE of a SPOON: any number.");
        Run r = new Run();
        for (int s = 0; s < 8; s++) {
            r.make("spoon", 9 - s, 0);
        }
        r.due(MIN, "voice", 0, 0, MIN).due(MIN + 6, "voice", 7, 0, MAX).due(MAX - 8, "voice", 0, 2, MIN);
        r.due(MAX - 2, "voice", 7, 2, MAX).due(-2, "voice", 0, 1, MAX);
        for (int k = 1; k <= 5; k++) {
            r.due(Due.LOW - k, "voice", 0, 0, Due.LOW - k).due(0, "told", k);
        }
        Sentence.of("Promise 34", "BEYOND.");
        Refused.outside("voice", 0, 0, 3, 0, 0, 1);
        Refused.outside("voice", 1, 0, 3, 0, 0, 1);
        Refused.outside(Scene.FULL, "voice", 0, 0, 7, 0, 0, 1);
        Refused.outside(Scene.BARE, "voice", 0, 0, -1, 0, 0, 1);
    }

    private static void trace() {
        Sentence.of("Promise 35", "THE TRACE's i-th.");
        Run r = new Run().make("spoon", 60, 0).make("voice", 0, 3, 1);
        int[] due = {71, 11, 10, 13, 11, 10, 70, 40, 12};
        for (int i = 0; i < due.length; i++) {
            r.due(due[i], "trace", i);
        }
        Sentence.of("Promise 35", "NONE: there is none such.");
        r.due(Due.NONE, "trace", 9).due(Due.NONE, "trace", -1).make("voice", 0, 0, 1).due(10, "trace", 0);
        r.due(Due.NONE, "trace", 1).due(Due.NONE, "trace", 8);
        Refused.in(Scene.BARE, Due.NONE, "trace", 0);
        for (int i : new int[] {-1, 9, 39, 40, 41, MIN, MAX}) {
            Refused.in(Scene.FULL, Due.NONE, "trace", i);
        }
    }

    /** Numbers of a SHEET, each 0 to 9 and at most 12 of them, as they become WEIGHT. */
    private static void holds(Run r, int sheet, int... due) {
        r.due(due.length, "weights", sheet);
        for (int i = 0; i < due.length; i++) {
            r.due(due[i], "ofWord", i, 0);
        }
    }

    private static void sheet() {
        Sentence.of("Promise 36", "A SHEET has n numbers, all 0, of so many bits (8, 16, 32; 0: it is missing, n "
            + "doesn't matter): 1.");
        for (int t = 0; t < 4; t++) {
            Run r = new Run();
            for (int bits = 8; bits <= 32; bits *= 2) {
                r.due(1, "sheet", t, bits, 0).due(Due.BEYOND, "put", t, 0, 1);
                r.due(1, "sheet", t, bits, 1).due(1, "put", t, 0, 7).due(Due.BEYOND, "put", t, 1, 7);
                r.due(1, "sheet", t, bits, 40);
                holds(r, t, 0, 0, 0, 0, 0, 0, 0, 0, 0, 0, 0, 0);
                r.due(1, "put", t, 0, 5).due(1, "put", t, 39, 5).due(Due.BEYOND, "put", t, 40, 5);
                // Anew, though as before: all 0 again.
                r.due(1, "sheet", t, bits, 40).due(1, "move", t, 39, t, 1, 1);
                holds(r, t, 0, 0, 0, 0, 0, 0, 0, 0, 0, 0, 0, 0);
            }
            for (int n : new int[] {0, 1, 40, 41, -1, MIN, MAX}) {
                r.make("sheet", t, 8, 1).due(1, "sheet", t, 0, n).due(Due.NONE, "put", t, 0, 0);
                r.due(1, "sheet", t, 0, n);
            }
            // Once missing, all 0 again, too.
            r.sheet(t, 8, 7, 7).make("sheet", t, 0, 2).due(1, "sheet", t, 8, 2);
            holds(r, t, 0, 0);
            r.due(0, "told", 3).due(1, "sheet", t, 8, 2).due(1, "put", t, 1, 1).due(Due.BEYOND, "put", t, 2, 1);
            r.due(1, "put", t, 0, 256 + 3);
            holds(r, t, 3, 1);
            r.due(1, "sheet", t, 16, 1).due(1, "put", t, 0, 65536 + 4);
            holds(r, t, 4);
        }
    }

    private static void sheetErrors() {
        Sentence.of("Promise 36", "BEYOND.");
        Refused.outside("sheet", 0, 0, 3, 0, 8, 1);
        Refused.outside("sheet", 0, 0, 3, 0, 0, 1);
        for (int bits : new int[] {-8, -1, 1, 7, 9, 15, 17, 24, 31, 33, 40, 64, MIN, MAX}) {
            Refused.in(Scene.MIDDLE, Due.BEYOND, "sheet", 1, bits, 1);
        }
        for (int bits = 8; bits <= 32; bits *= 2) {
            Refused.in(Scene.MIDDLE, Due.BEYOND, "sheet", 1, bits, 41);
            Refused.in(Scene.MIDDLE, Due.BEYOND, "sheet", 3, bits, MAX);
        }
        Sentence.of("Promise 36", "STATE: n is below 0 (ahead of BEYOND of n).");
        for (int bits = 8; bits <= 32; bits *= 2) {
            Refused.in(Scene.MIDDLE, Due.STATE, "sheet", 1, bits, -1);
            Refused.in(Scene.MIDDLE, Due.STATE, "sheet", 3, bits, MIN);
        }
    }

    private static void put() {
        Sentence.of("Promise 37", "Number i of a SHEET becomes v (its lowest bits): 1.");
        // Only the lowest bits are kept: these are 5 by 8 bits, by 16, by 32.
        int[][] rows = {{5, 1, 1, 1}, {256 + 5, 1, 0, 0}, {65536 + 5, 1, 1, 0}, {-256 + 5, 1, 0, 0},
            {-65536 + 5, 1, 1, 0}, {MIN + 5, 1, 1, 0}, {MAX - 250, 1, 0, 0}, {128 + 5, 0, 0, 0},
            {32768 + 5, 1, 0, 0}, {4, 0, 0, 0}, {(1 << 24) + 5, 1, 1, 0}, {-5, 0, 0, 0}};
        for (int[] row : rows) {
            for (int i = 0; i < 3; i++) {
                Run r = new Run().make("spoon", 0, 5).make("sheet", 2, 8 << i, 1).due(1, "put", 2, 0, row[0]);
                Due.due(row[0] + " by " + (8 << i) + " bits is 5", r.call("judge", 2) == -1 ? 1 : 0, row[1 + i]);
            }
        }
        Run r = new Run().make("sheet", 0, 8, 12);
        for (int i = 11; i >= 0; i--) {
            r.due(1, "put", 0, i, i % 10);
        }
        holds(r, 0, 0, 1, 2, 3, 4, 5, 6, 7, 8, 9, 0, 1);
    }

    private static void putErrors() {
        Sentence.of("Promise 37", "BEYOND: no such SHEET.");
        Refused.outside("put", 0, 0, 3, 0, 0, 1);
        Sentence.of("Promise 37", "NONE: it is missing.");
        Refused.in(Scene.MIDDLE, Due.NONE, "put", 3, 0, 1);
        Refused.in(Scene.MIDDLE, Due.NONE, "put", 3, -1, 1);
        Refused.in(Scene.MIDDLE, Due.NONE, "put", 3, 40, 1);
        Sentence.of("Promise 37", "BEYOND: no such number.");
        Refused.outside("put", 1, 0, 2, 0, 0, 1);
        Refused.outside("put", 1, 0, 4, 1, 0, 1);
        Refused.outside(Scene.FULL, "put", 1, 0, 39, 0, 0, 1);
        Refused.outside(Scene.FULL, "put", 1, 0, -1, 2, 0, 1);
    }

    private static void move() {
        Sentence.of("Promise 38", "n numbers of a SHEET, from number i on, come to another one (or the same), from its "
            + "number j on, as they all were: n.");
        Run r = new Run().sheet(0, 8, 1, 2, 3, 4, 5).sheet(1, 8, 6, 7, 8);
        r.due(3, "move", 0, 2, 1, 0, 3);
        holds(r, 1, 3, 4, 5);
        holds(r, 0, 1, 2, 3, 4, 5);
        r.due(1, "move", 0, 0, 1, 2, 1);
        holds(r, 1, 3, 4, 1);
        // As they all were, to the right and to the left.
        r.due(4, "move", 0, 0, 0, 1, 4);
        holds(r, 0, 1, 1, 2, 3, 4);
        r.due(4, "move", 0, 1, 0, 0, 4);
        holds(r, 0, 1, 2, 3, 4, 4);
        r.due(5, "move", 0, 0, 0, 0, 5);
        holds(r, 0, 1, 2, 3, 4, 4);
        // None, from and to each end.
        r.due(0, "move", 0, 0, 1, 0, 0).due(0, "move", 0, 5, 1, 3, 0).due(0, "move", 1, 3, 0, 5, 0);
        holds(r, 1, 3, 4, 1);
        r.make("sheet", 2, 8, 0).due(0, "move", 2, 0, 2, 0, 0).due(0, "move", 0, 0, 2, 0, 0);
        for (int bits = 8; bits <= 32; bits *= 2) {
            r.make("sheet", 2, bits, 40).make("sheet", 3, bits, 40).make("put", 2, 0, 9).make("put", 2, 39, 8);
            r.due(40, "move", 2, 0, 3, 0, 40).due(1, "move", 3, 39, 3, 1, 1);
            holds(r, 3, 9, 8, 0, 0, 0, 0, 0, 0, 0, 0, 0, 0);
        }
    }

    private static void moveErrors() {
        Sentence.of("Promise 38", "BEYOND: no such SHEET.");
        Refused.outside("move", 0, 0, 3, 0, 0, 1, 0, 1);
        Refused.outside("move", 2, 0, 3, 1, 0, 0, 0, 1);
        Refused.in(Scene.MIDDLE, Due.BEYOND, "move", 3, 0, 4, 0, 1);
        Refused.in(Scene.MIDDLE, Due.BEYOND, "move", -1, 0, 3, 0, -1);
        Sentence.of("Promise 38", "NONE: one is missing.");
        Refused.in(Scene.MIDDLE, Due.NONE, "move", 3, 0, 0, 0, 1);
        Refused.in(Scene.MIDDLE, Due.NONE, "move", 0, 0, 3, 0, 1);
        Refused.in(Scene.MIDDLE, Due.NONE, "move", 3, 0, 3, 0, 0);
        Refused.in(Scene.MIDDLE, Due.NONE, "move", 0, -1, 3, -1, -1);
        Sentence.of("Promise 38", "KIND: they are of unlike bits.");
        Refused.in(Scene.MIDDLE, Due.KIND, "move", 0, 0, 2, 0, 1);
        Refused.in(Scene.MIDDLE, Due.KIND, "move", 2, 0, 0, 0, 0);
        Refused.in(Scene.MIDDLE, Due.KIND, "move", 2, -1, 0, -1, -1);
        Refused.in(Scene.FULL, Due.KIND, "move", 0, 0, 1, 0, 1);
        Sentence.of("Promise 38", "BEYOND: n, i, or j is below 0, or they don't stand there.");
        // SHEET 0 has 3 numbers, SHEET 1 has 5.
        int[][] rows = {{0, -1, 1, 0, 1}, {0, 0, 1, -1, 1}, {0, 0, 1, 0, -1}, {0, -1, 1, 0, 0}, {0, 0, 1, -1, 0},
            {0, 0, 1, 0, 4}, {1, 0, 0, 0, 4}, {0, 3, 1, 0, 1}, {1, 0, 0, 3, 1}, {0, 1, 1, 0, 3}, {1, 0, 0, 1, 3},
            {0, 0, 1, 5, 1}, {0, 0, 1, 3, 3}, {0, 4, 1, 0, 0}, {1, 0, 0, 4, 0}, {0, 1, 1, 0, MAX}, {0, MAX, 1, 0, 1},
            {0, 0, 1, MAX, 1}, {0, MAX, 1, MAX, MAX}, {0, MIN, 1, 0, 1}, {0, 0, 1, MIN, 1}, {0, 0, 1, 0, MIN},
            {0, MIN, 1, MIN, MIN}, {1, 1, 1, 0, 5}, {1, 0, 1, 1, 5}, {1, 0, 1, 0, 6}, {1, -1, 1, 0, 2}};
        for (int[] a : rows) {
            Refused.in(Scene.MIDDLE, Due.BEYOND, "move", a[0], a[1], a[2], a[3], a[4]);
        }
        Refused.in(Scene.FULL, Due.BEYOND, "move", 0, 0, 0, 0, 41);
        Refused.in(Scene.FULL, Due.BEYOND, "move", 2, 0, 2, 0, 1);
    }

    private static void weights() {
        Sentence.of("Promise 39", "Numbers of a SHEET become WEIGHT of WORDS 0, 1, ..: how many, up to the first that "
            + "is not 0 to 9 (no ERROR then), or for which there is no WORD.");
        for (int bits = 8; bits <= 32; bits *= 2) {
            Run r = new Run().sheet(0, bits).due(0, "weights", 0).due(46, "count", 5);
            r.sheet(0, bits, 9).due(1, "weights", 0).due(9, "ofWord", 0, 0).due(1, "ofWord", 1, 0);
            r.sheet(0, bits, 10, 5).due(0, "weights", 0).due(9, "ofWord", 0, 0).due(1, "ofWord", 1, 0);
            r.sheet(0, bits, -1, 5).due(0, "weights", 0).due(9, "ofWord", 0, 0).due(1, "ofWord", 1, 0);
            r.sheet(0, bits, 0, 9, 0, 10, 5).due(3, "weights", 0).due(9, "ofWord", 1, 0).due(3, "ofWord", 3, 0);
            r.due(4, "ofWord", 4, 0).sheet(0, bits, 9, 9, 9, 9, 9, 9, 9, 9, 9, 9, 9, 9).due(12, "weights", 0);
            r.due(108, "count", 5).make("sheet", 0, bits, 40).due(12, "weights", 0).due(0, "count", 5);
            // The 13th is for no WORD, whatever it is; the 12th counts yet.
            r.sheet(0, bits, 1, 1, 1, 1, 1, 1, 1, 1, 1, 1, 1, 1, 99).due(12, "weights", 0).due(12, "count", 5);
            r.sheet(0, bits, 2, 2, 2, 2, 2, 2, 2, 2, 2, 2, 2, 10, 2).due(11, "weights", 0).due(23, "count", 5);
            for (int k = 1; k <= 5; k++) {
                r.due(0, "told", k);
            }
        }
    }

    private static void weightsErrors() {
        Sentence.of("Promise 39", "BEYOND: no such SHEET.");
        Refused.outside("weights", 0, 0, 3, 0);
        Sentence.of("Promise 39", "NONE: it is missing.");
        Refused.in(Scene.MIDDLE, Due.NONE, "weights", 3);
        Refused.in(Scene.BARE, Due.NONE, "weights", 0);
    }

    private static void judge() {
        Sentence.of("Promise 40", "Numbers of a SHEET are SILVER of SPOONS 0, 1, ..: the first that isn't so (one that "
            + "lacks, or is too many, too); -1: all are.");
        for (int bits = 8; bits <= 32; bits *= 2) {
            Run r = new Run().sheet(0, bits).due(-1, "judge", 0).sheet(0, bits, 0).due(0, "judge", 0);
            r.make("spoon", 0, 0).due(-1, "judge", 0).sheet(0, bits).due(0, "judge", 0);
            r.sheet(0, bits, 0, 0).due(1, "judge", 0).sheet(0, bits, 1).due(0, "judge", 0);
            r.make("spoon", 0, 99).sheet(0, bits, 0, 99).due(-1, "judge", 0).sheet(0, bits, 0, 98).due(1, "judge", 0);
            r.sheet(0, bits, 0).due(1, "judge", 0).sheet(0, bits, 1, 98).due(0, "judge", 0);
            r.make("sheet", 0, bits, 40).due(1, "judge", 0).make("put", 0, 1, 99).due(2, "judge", 0);
            for (int s = 2; s < 8; s++) {
                r.make("spoon", 0, s);
            }
            r.sheet(0, bits, 0, 99, 2, 3, 4, 5, 6, 7).due(-1, "judge", 0).make("put", 0, 7, 8).due(7, "judge", 0);
            r.sheet(0, bits, 0, 99, 2, 3, 4, 5, 6).due(7, "judge", 0);
            r.sheet(0, bits, 0, 99, 2, 3, 4, 5, 6, 7, 0).due(8, "judge", 0);
            for (int k = 1; k <= 5; k++) {
                r.due(0, "told", k);
            }
        }
    }

    private static void judgeErrors() {
        Sentence.of("Promise 40", "BEYOND: no such SHEET.");
        Refused.outside("judge", 0, 0, 3, 0);
        Sentence.of("Promise 40", "NONE: it is missing.");
        Refused.in(Scene.MIDDLE, Due.NONE, "judge", 3);
        Refused.in(Scene.BARE, Due.NONE, "judge", 0);
    }

    private static void image() {
        Sentence.of("Promise 41", "All (but SHEETS, THE TRACE, what told() tells, and how often this was done) is "
            + "kept as an IMAGE, in place of one ahead: how often that was done.");
        Run r = new Run().due(1, "image").due(0, "restore").make("hours", 3).due(2, "image").make("hours", 1);
        r.due(3, "restore").due(3, "image").due(4, "image").due(3, "restore").due(5, "image");
    }

    private static void imageKeeps() {
        Sentence.of("Promise 41", "All (but SHEETS, THE TRACE, what told() tells, and how often this was done) is "
            + "kept as an IMAGE, in place of one ahead: how often that was done.");
        for (Scene scene : Scene.values()) {
            // All is as it was when the IMAGE is brought back at once, ...
            Run r = scene.make().make("image");
            r.make("restore");
            String unlike = withOneImage(scene).unlike(Look.at(r));
            Due.due(scene + " is changed by restore() at once: " + unlike, unlike.isEmpty() ? 1 : 0, 1);
            // ... and behind whatever changes.
            r = scene.make().make("image");
            changeAll(r);
            r.make("restore");
            unlike = withOneImage(scene).unlike(Look.at(r));
            Due.due(scene + " is changed by restore(): " + unlike, unlike.isEmpty() ? 1 : 0, 1);
        }
    }

    /** THE TAPE's 50 bytes, the 20 numbers that wait, though as many others have been in their place. */
    private static void imageKeepsFullRows() {
        Sentence.of("Promise 41", "All (but SHEETS, THE TRACE, what told() tells, and how often this was done) is "
            + "kept as an IMAGE, in place of one ahead: how often that was done.");
        Run r = new Run().feed("k" + "+1".repeat(24) + "5");
        for (int i = 0; i < 20; i++) {
            r.make("tell", 0);
        }
        r.make("image").make("text", 1).feed("%".repeat(50)).make("check");
        for (int i = 0; i < 20; i++) {
            r.make("tell", 7);
        }
        r.due(0, "restore").due(50, "count", 7).due(20, "count", 8).due(0, "check").due(1, "text", 0);
        r.due(8, "law", 0, -30, 0, 0);
        // The other way round: fewer come back in place of more.
        r = new Run().feed("k-1").make("tell", 0).make("tell", 1).make("image").make("text", 1).make("check");
        for (int i = 0; i < 20; i++) {
            r.make("tell", 0);
        }
        r.feed("w".repeat(50)).due(0, "restore").due(3, "count", 7).due(2, "count", 8).due(2, "check");
        r.due(1, "text", 0).due(4, "law", 0, 5, 0, 0);
    }

    private static Look withOneImage(Scene scene) {
        return Look.at(scene.make().make("image"));
    }

    /** All that an IMAGE keeps becomes another; nothing that it doesn't keep. */
    private static void changeAll(Run r) {
        int spoons = r.call("count", 0);
        for (int w = 0; w < 12; w++) {
            r.make("word", w, 9 - w % 7);
        }
        for (int p = 0; p < 6; p++) {
            r.make("swallow", p, p + 1, 11 - p);
        }
        for (int p = 0; p < 4; p++) {
            r.make("wash", p, 6 - p);
        }
        r.make("feed", 's', 1).make("text", 0).make("feed", 's', 1).make("text", 1);
        for (int s = 0; s < spoons; s++) {
            r.make("change", s, 0, 55).make("change", s, 1 + s, 6).make("become", s, 45 + s);
        }
        if (spoons < 8) {
            r.make("spoon", 11, 11);
        }
        if (r.call("count", 1) < 9999) {
            r.make("loose", 1);
        }
        r.make("known", 2730).make("seed", -9).make("check").make("tell", 3).feed("%%");
    }

    private static void imageLeavesOut() {
        Sentence.of("Promise 41", "All (but SHEETS, THE TRACE, what told() tells, and how often this was done) is "
            + "kept as an IMAGE, in place of one ahead: how often that was done.");
        Run r = new Run().make("spoon", 60, 9).sheet(0, 8, 1, 2).make("voice", 0, 3, 1).make("known", -1).make("image");
        r.sheet(0, 8, 3, 4, 5).sheet(1, 16, 6).make("voice", 0, 2, 1).make("known", -1).make("image").make("image");
        r.due(0, "restore");
        holds(r, 0, 3, 4, 5);
        r.due(Due.KIND, "move", 0, 0, 1, 0, 0).due(3, "count", 9).due(70, "trace", 0).due(12, "trace", 2);
        r.due(2, "told", 1).due(4, "image").make("sheet", 0, 0, 0).due(0, "restore").due(Due.NONE, "weights", 0);
    }

    private static void restore() {
        Sentence.of("Promise 42", "All is as the IMAGE has it, which stays: HOUR.");
        Run r = new Run().due(1, "image").make("hours", 9).due(0, "restore").due(0, "count", 1).make("spoon", 0, 5);
        r.due(0, "restore").due(0, "count", 0).due(0, "restore");
        r = new Run().make("spoon", 30, 9).make("word", 0, 9).make("swallow", 0, 0, 0).make("wash", 0, 0).make("image");
        for (int i = 0; i < 3; i++) {
            r.due(1, "hours", 1).due(6, "ofSpoon", 0, 2).due(0, "restore").due(9, "ofSpoon", 0, 2).due(0, "count", 3);
            r.due(0, "ofSpoon", 0, 3).due(6, "then", 1, 0, 0);
        }
        r = new Run().pass(9999).make("image").due(9999, "restore").make("spoon", 0, 1).due(9999, "restore");
        Sentence.of("Promise 42", "NONE: there is none.");
        Refused.in(Scene.BARE, Due.NONE, "restore");
        r = new Run().pass(5).due(Due.NONE, "restore").due(5, "count", 1).due(1, "image").due(5, "restore");
    }

    private static void tell() {
        Sentence.of("Promise 43", "One more number waits: how many.");
        Run r = new Run();
        for (int i = 1; i <= 20; i++) {
            r.due(i, "tell", i % 3 == 0 ? MIN : i % 3 == 1 ? MAX : Due.FULL).due(i, "count", 8);
        }
        Sentence.of("Promise 43", "FULL: 20 wait.");
        r.due(Due.FULL, "tell", 0).due(20, "count", 8).due(1, "told", 4).due(1, "check").due(1, "tell", 0);
        for (int v : new int[] {0, MIN, MAX}) {
            Refused.in(Scene.FULL, Due.FULL, "tell", v);
        }
    }

    private static void check() {
        Sentence.of("Promise 44", "The numbers that wait (none do then) are SPREADS by 1, 2, ..: 0; else 1 and the "
            + "place (from 0) of the first that isn't so.");
        new Run().due(0, "check").due(0, "count", 8);
        for (int many = 1; many <= 20; many++) {
            for (int wrong = 0; wrong <= many; wrong++) {
                Run r = new Run().make("spoon", 0, 9).make("change", 0, 1, 9).make("wash", 1, 0);
                for (int i = 0; i < many; i++) {
                    r.make("tell", (i == 0 ? 0 : 1) + (i == wrong ? 1 : 0));
                }
                r.due(wrong < many ? wrong + 1 : 0, "check").due(0, "count", 8).due(0, "check").due(0, "count", 1);
            }
        }
        // More than one isn't so; 12 is the most that SPREADS; numbers that are none.
        new Run().make("tell", 0).make("tell", 5).make("tell", 5).due(2, "check");
        new Run().make("known", 4095).make("tell", 12).due(0, "check").make("tell", 13).due(1, "check");
        new Run().make("tell", -1).due(1, "check").make("tell", MIN).due(1, "check").make("tell", MAX).due(1, "check");
    }

    private static void count() {
        Sentence.of("Promise 45", "0 SPOONS, 1 HOUR, 2 how many WORDS are KNOWN, 3 KNOWN, 4 SILVER of all together, 5 "
            + "WEIGHT of all WORDS, 6 WORDS that are ON any, as a set, 7 bytes of THE TAPE, 8 numbers that wait, 9 "
            + "BODIES in THE TRACE, 10 z (any number).");
        int[] least = {0, 0, 0, 0, 0, 0, 0, 0, 0, 0, MIN};
        Run r = new Run().make("seed", MIN).sheet(0, 8, new int[12]).make("weights", 0);
        for (int what = 0; what <= 10; what++) {
            r.due(least[what], "count", what);
        }
        r = new Run().pass(9999).make("known", 4095).make("seed", MAX).feed("k".repeat(50));
        for (int s = 0; s < 8; s++) {
            r.make("spoon", 60, 99).make("change", s, 1 + s, 1);
        }
        for (int w = 0; w < 12; w++) {
            r.make("word", w, 9).make("change", 7, 1 + w, 9);
        }
        for (int i = 0; i < 20; i++) {
            r.make("tell", 0);
        }
        r.make("voice", 0, 3, 0);
        int[] most = {8, 9999, 12, 4095, 792, 108, 4095, 50, 20, 9, MAX};
        for (int what = 0; what <= 10; what++) {
            r.due(most[what], "count", what);
        }
        // What is ON one that is THROUGH is ON one.
        new Run().make("spoon", 0, 0).make("change", 0, 12, 1).due(2048, "count", 6).due(0, "count", 4);
        new Run().make("seed", Due.BEYOND).due(Due.BEYOND, "count", 10).due(0, "told", 1);
        Sentence.of("Promise 45", "BEYOND.");
        Refused.outside("count", 0, 0, 10, 0);
    }

    private static void told() {
        Sentence.of("Promise 46", "How many acts have answered an ERROR LOW - k (k 1 .. 5);");
        Run r = new Run();
        for (int k = 1; k <= 5; k++) {
            r.due(0, "told", k);
        }
        r.make("known", -1).make("when", 0).make("restore").make("spoon", 0, 0);
        for (int i = 0; i < 3; i++) {
            r.make("sheet", 0, 8, -1);
        }
        for (int i = 0; i < 24; i++) {
            r.make("tell", 0);
        }
        for (int i = 0; i < 5; i++) {
            r.make("as", 0, 1);
        }
        for (int k = 1; k <= 5; k++) {
            r.due(k, "told", k).due(k, "told", k);
        }
        // A FAULT is no ERROR, nor are numbers that look like one.
        r.make("text", 0).make("seed", Due.KIND).make("count", 10).make("voice", 0, 0, Due.NONE);
        for (int k = 1; k <= 5; k++) {
            r.due(k, "told", k);
        }
        Sentence.of("Promise 46", "BEYOND: another k (counted, too).");
        int told = 1;
        for (int k : new int[] {0, 6, -1, 7, MIN, MAX}) {
            r.due(Due.BEYOND, "told", k);
            told++;
            r.due(told, "told", 1).due(2, "told", 2).due(5, "told", 5);
        }
        Refused.outside("told", 0, 1, 5, 1);
    }
}
