/** Promises 1 to 8: a new object; words, what is known, the lists. */
public final class WordsTest {
    private static final int[] FAR = {Integer.MIN_VALUE, -1000, 1000000, Integer.MAX_VALUE};

    private WordsTest() {
    }

    public static void main(String[] args) {
        newObject();
        twoObjects();
        word();
        ofWord();
        known();
        swallow();
        wash();
        Due.end();
    }

    private static void newObject() {
        Due.topic("promise 1");
        SpoonsLast x = new SpoonsLast();
        for (int k = 1; k <= 5; k++) {
            Due.due("told(" + k + ")", x.told(k), 0);
        }
        int[] counts = {0, 0, 0, 0, 0, 46, 0, 0, 0, 0, 1};
        for (int what = 0; what < counts.length; what++) {
            Due.due("count(" + what + ")", x.count(what), counts[what]);
        }
        for (int w = 0; w < 12; w++) {
            Due.due("ofWord(" + w + ", 0)", x.ofWord(w, 0), w % 10);
            Due.due("ofWord(" + w + ", 1)", x.ofWord(w, 1), 0);
            Due.due("ofWord(" + w + ", 2)", x.ofWord(w, 2), 0);
        }
        for (int p = 0; p < 6; p++) {
            Due.due("ofSwallow(" + p + ")", x.ofSwallow(p), 0);
        }
        for (int p = 0; p < 4; p++) {
            Due.due("ofWash(" + p + ")", x.ofWash(p), 0);
        }
        Due.due("law(0, 4, 8, 50)", x.law(0, 4, 8, 50), 4);
        Due.due("law(1, 15, 8, 3)", x.law(1, 15, 8, 3), 15);
        Due.due("washers()", x.washers(), 0);
        Due.due("check()", x.check(), 0);
        Due.due("ofSpoon(0, 0)", x.ofSpoon(0, 0), Due.BEYOND);
        Due.due("trace(0)", x.trace(0), Due.NONE);
        Due.due("restore()", x.restore(), Due.NONE);
        for (int t = 0; t < 4; t++) {
            Due.due("put(" + t + ", 0, 0)", x.put(t, 0, 0), Due.NONE);
        }
        Due.due("text(0)", x.text(0), -10);
    }

    private static void twoObjects() {
        SpoonsLast one = new SpoonsLast();
        SpoonsLast other = new SpoonsLast();
        one.word(3, 9);
        one.spoon(13, 20);
        one.swallow(0, 0, 3);
        one.wash(0, 0);
        one.hours(1);
        one.sheet(0, 8, 2);
        one.voice(0, 3, 1);
        one.image();
        one.seed(7);
        one.tell(1);
        one.feed('k', 1);
        one.word(-1, 0);
        Due.due("ofWord(3, 0) of another", other.ofWord(3, 0), 3);
        int[] counts = {0, 0, 0, 0, 0, 46, 0, 0, 0, 0, 1};
        for (int what = 0; what < counts.length; what++) {
            Due.due("count(" + what + ") of another", other.count(what), counts[what]);
        }
        Due.due("told(1) of another", other.told(1), 0);
        Due.due("ofSwallow(0) of another", other.ofSwallow(0), 0);
        Due.due("restore() of another", other.restore(), Due.NONE);
        Due.due("judge(0) of another", other.judge(0), Due.NONE);
    }

    private static void word() {
        Due.topic("promise 2");
        SpoonsLast x = new SpoonsLast();
        for (int w = 0; w < 12; w++) {
            Due.due("word(" + w + ", " + (9 - w % 10) + ")", x.word(w, 9 - w % 10), w % 10);
        }
        for (int w = 0; w < 12; w++) {
            Due.due("ofWord(" + w + ", 0)", x.ofWord(w, 0), 9 - w % 10);
        }
        Due.due("word(5, 0)", x.word(5, 0), 4);
        Due.due("word(5, 9)", x.word(5, 9), 0);
        Due.due("word(5, 9)", x.word(5, 9), 9);
        Due.due("word(-1, 0)", x.word(-1, 0), Due.BEYOND);
        Due.due("word(12, 0)", x.word(12, 0), Due.BEYOND);
        Due.due("word(5, -1)", x.word(5, -1), Due.BEYOND);
        Due.due("word(5, 10)", x.word(5, 10), Due.BEYOND);
        for (int far : FAR) {
            Due.due("word(" + far + ", 0)", x.word(far, 0), Due.BEYOND);
            Due.due("word(0, " + far + ")", x.word(0, far), Due.BEYOND);
        }
        Due.due("told(1)", x.told(1), 12);
        Due.due("ofWord(5, 0)", x.ofWord(5, 0), 9);
        Due.due("ofWord(0, 0)", x.ofWord(0, 0), 9);
        Due.due("count(5)", x.count(5), 9 + 8 + 7 + 6 + 5 + 9 + 3 + 2 + 1 + 0 + 9 + 8);
    }

    private static void ofWord() {
        Due.topic("promise 3");
        SpoonsLast x = new SpoonsLast();
        for (int s = 0; s < 8; s++) {
            x.spoon(10 * (s % 7), s == 2 ? 0 : 9);
        }
        x.known(1 << 11 | 1 << 4);
        x.change(0, 12, 1);
        x.change(2, 12, 9);
        x.change(7, 12, 5);
        x.change(3, 1, 1);
        Due.due("ofWord(11, 0)", x.ofWord(11, 0), 1);
        Due.due("ofWord(11, 1)", x.ofWord(11, 1), 1);
        Due.due("ofWord(11, 2)", x.ofWord(11, 2), 1 + 4 + 128);
        Due.due("ofWord(4, 1)", x.ofWord(4, 1), 1);
        Due.due("ofWord(4, 2)", x.ofWord(4, 2), 0);
        Due.due("ofWord(0, 1)", x.ofWord(0, 1), 0);
        Due.due("ofWord(0, 2)", x.ofWord(0, 2), 8);
        x.change(0, 12, 0);
        Due.due("ofWord(11, 2)", x.ofWord(11, 2), 4 + 128);
        Due.due("ofWord(-1, 0)", x.ofWord(-1, 0), Due.BEYOND);
        Due.due("ofWord(12, 0)", x.ofWord(12, 0), Due.BEYOND);
        Due.due("ofWord(0, -1)", x.ofWord(0, -1), Due.BEYOND);
        Due.due("ofWord(0, 3)", x.ofWord(0, 3), Due.BEYOND);
        for (int far : FAR) {
            Due.due("ofWord(" + far + ", 0)", x.ofWord(far, 0), Due.BEYOND);
            Due.due("ofWord(0, " + far + ")", x.ofWord(0, far), Due.BEYOND);
        }
        Due.due("told(1)", x.told(1), 12);
    }

    private static void known() {
        Due.topic("promise 4");
        SpoonsLast x = new SpoonsLast();
        Due.due("known(4095)", x.known(4095), 0);
        Due.due("count(2)", x.count(2), 12);
        Due.due("known(-1)", x.known(-1), Due.BEYOND);
        Due.due("known(4096)", x.known(4096), Due.BEYOND);
        for (int far : FAR) {
            Due.due("known(" + far + ")", x.known(far), Due.BEYOND);
        }
        Due.due("told(1)", x.told(1), 6);
        Due.due("known(2050)", x.known(2050), 4095);
        for (int w = 0; w < 12; w++) {
            Due.due("ofWord(" + w + ", 1)", x.ofWord(w, 1), w == 1 || w == 11 ? 1 : 0);
        }
        Due.due("count(3)", x.count(3), 2050);
        Due.due("known(0)", x.known(0), 2050);
        Due.due("known(0)", x.known(0), 0);
    }

    private static void swallow() {
        Due.topic("promises 5, 6");
        SpoonsLast x = new SpoonsLast();
        Due.due("swallow(0, 7, 11)", x.swallow(0, 7, 11), 0);
        Due.due("swallow(0, -1, 11)", x.swallow(0, -1, 11), 107);
        Due.due("swallow(0, 0, 0)", x.swallow(0, 0, 0), 11);
        Due.due("ofSwallow(0)", x.ofSwallow(0), 12);
        for (int p = 0; p < 6; p++) {
            x.swallow(p, p, 11 - p);
        }
        for (int p = 0; p < 6; p++) {
            Due.due("ofSwallow(" + p + ")", x.ofSwallow(p), 12 * (p + 1) + 11 - p);
        }
        int[][] wrong = {{-1, 0, 0}, {6, 0, 0}, {0, -2, 0}, {0, 8, 0}, {0, 0, -1}, {0, 0, 12}};
        for (int[] a : wrong) {
            String call = "swallow(" + a[0] + ", " + a[1] + ", " + a[2] + ")";
            Due.due(call, x.swallow(a[0], a[1], a[2]), Due.BEYOND);
        }
        for (int far : FAR) {
            Due.due("swallow(" + far + ", 0, 0)", x.swallow(far, 0, 0), Due.BEYOND);
            Due.due("swallow(0, " + far + ", 0)", x.swallow(0, far, 0), Due.BEYOND);
            Due.due("swallow(0, 0, " + far + ")", x.swallow(0, 0, far), Due.BEYOND);
            Due.due("ofSwallow(" + far + ")", x.ofSwallow(far), Due.BEYOND);
        }
        Due.due("ofSwallow(-1)", x.ofSwallow(-1), Due.BEYOND);
        Due.due("ofSwallow(6)", x.ofSwallow(6), Due.BEYOND);
        Due.due("told(1)", x.told(1), 24);
        for (int p = 0; p < 6; p++) {
            Due.due("ofSwallow(" + p + ")", x.ofSwallow(p), 12 * (p + 1) + 11 - p);
        }
        Due.due("swallow(5, 7, 3)", x.swallow(5, 7, 3), 78);
        Due.due("ofSwallow(5)", x.ofSwallow(5), 99);
        Due.due("ofSwallow(4)", x.ofSwallow(4), 67);
    }

    private static void wash() {
        Due.topic("promises 7, 8");
        SpoonsLast x = new SpoonsLast();
        Due.due("wash(0, 7)", x.wash(0, 7), 0);
        Due.due("wash(0, -1)", x.wash(0, -1), 8);
        Due.due("wash(0, 0)", x.wash(0, 0), 0);
        Due.due("wash(0, 3)", x.wash(0, 3), 1);
        for (int p = 0; p < 4; p++) {
            x.wash(p, 7 - p);
        }
        for (int p = 0; p < 4; p++) {
            Due.due("ofWash(" + p + ")", x.ofWash(p), 8 - p);
        }
        Due.due("wash(-1, 0)", x.wash(-1, 0), Due.BEYOND);
        Due.due("wash(4, 0)", x.wash(4, 0), Due.BEYOND);
        Due.due("wash(0, -2)", x.wash(0, -2), Due.BEYOND);
        Due.due("wash(0, 8)", x.wash(0, 8), Due.BEYOND);
        Due.due("ofWash(-1)", x.ofWash(-1), Due.BEYOND);
        Due.due("ofWash(4)", x.ofWash(4), Due.BEYOND);
        for (int far : FAR) {
            Due.due("wash(" + far + ", 0)", x.wash(far, 0), Due.BEYOND);
            Due.due("wash(0, " + far + ")", x.wash(0, far), Due.BEYOND);
            Due.due("ofWash(" + far + ")", x.ofWash(far), Due.BEYOND);
        }
        Due.due("told(1)", x.told(1), 18);
        for (int p = 0; p < 4; p++) {
            Due.due("ofWash(" + p + ")", x.ofWash(p), 8 - p);
        }
        Due.due("ofSwallow(0)", x.ofSwallow(0), 0);
    }
}
