/** Promises 9 to 13: spoons, what they are, what they become. */
public final class SpoonsTest {
    private static final int[] FAR = {Integer.MIN_VALUE, -1000, 1000000, Integer.MAX_VALUE};

    private SpoonsTest() {
    }

    public static void main(String[] args) {
        spoon();
        ofSpoon();
        wears();
        change();
        become();
        as();
        Due.end();
    }

    private static void spoon() {
        Due.topic("promise 9");
        SpoonsLast x = new SpoonsLast();
        Due.due("spoon(-1, 5)", x.spoon(-1, 5), Due.BEYOND);
        Due.due("spoon(70, 5)", x.spoon(70, 5), Due.BEYOND);
        Due.due("spoon(5, -1)", x.spoon(5, -1), Due.BEYOND);
        Due.due("spoon(5, 100)", x.spoon(5, 100), Due.BEYOND);
        for (int far : FAR) {
            Due.due("spoon(" + far + ", 5)", x.spoon(far, 5), Due.BEYOND);
            Due.due("spoon(5, " + far + ")", x.spoon(5, far), Due.BEYOND);
        }
        Due.due("count(0)", x.count(0), 0);
        int[][] made = {{0, 0}, {69, 99}, {13, 1}, {20, 50}, {37, 2}, {48, 98}, {59, 10}, {9, 3}};
        for (int i = 0; i < 8; i++) {
            Due.due("count(0)", x.count(0), i);
            String call = "spoon(" + made[i][0] + ", " + made[i][1] + ")";
            Due.due(call, x.spoon(made[i][0], made[i][1]), i);
        }
        Due.due("spoon(0, 1)", x.spoon(0, 1), Due.FULL);
        Due.due("spoon(69, 99)", x.spoon(69, 99), Due.FULL);
        Due.due("spoon(70, 1)", x.spoon(70, 1), Due.BEYOND);
        Due.due("spoon(0, 100)", x.spoon(0, 100), Due.BEYOND);
        Due.due("told(1)", x.told(1), 14);
        Due.due("told(4)", x.told(4), 2);
        Due.due("count(0)", x.count(0), 8);
        Due.due("count(4)", x.count(4), 0 + 99 + 1 + 50 + 2 + 98 + 10 + 3);
        for (int i = 0; i < 8; i++) {
            Due.due("ofSpoon(" + i + ", 0)", x.ofSpoon(i, 0), made[i][0] / 10);
            Due.due("ofSpoon(" + i + ", 1)", x.ofSpoon(i, 1), made[i][0] % 10);
            Due.due("ofSpoon(" + i + ", 2)", x.ofSpoon(i, 2), made[i][1]);
            for (int what = 5; what <= 16; what++) {
                Due.due("ofSpoon(" + i + ", " + what + ")", x.ofSpoon(i, what), 0);
            }
        }
        freshAfterRestore();
    }

    /** A SPOON's number may have been another's, ahead of an IMAGE that lacks it. */
    private static void freshAfterRestore() {
        SpoonsLast x = new SpoonsLast();
        x.image();
        x.spoon(0, 5);
        x.change(0, 4, 9);
        x.restore();
        Due.due("count(0)", x.count(0), 0);
        Due.due("ofSpoon(0, 3)", x.ofSpoon(0, 3), Due.BEYOND);
        Due.due("spoon(11, 6)", x.spoon(11, 6), 0);
        Due.due("ofSpoon(0, 3)", x.ofSpoon(0, 3), 0);
        Due.due("ofWord(3, 2)", x.ofWord(3, 2), 0);
    }

    private static void ofSpoon() {
        Due.topic("promise 10");
        SpoonsLast x = new SpoonsLast();
        x.spoon(1, 2);
        x.spoon(67, 42);
        for (int w = 0; w < 12; w++) {
            Due.due("change(1, " + (w + 1) + ")", x.change(1, w + 1, (w * 7 + 3) % 10), 0);
        }
        Due.due("ofSpoon(1, 0)", x.ofSpoon(1, 0), 6);
        Due.due("ofSpoon(1, 1)", x.ofSpoon(1, 1), 7);
        Due.due("ofSpoon(1, 2)", x.ofSpoon(1, 2), 42);
        // 3 0 7 4 1 8 5 2 9 6 3 0: all but WORDS 1 and 11 are ON it.
        Due.due("ofSpoon(1, 3)", x.ofSpoon(1, 3), 4095 - 2 - 2048);
        Due.due("ofSpoon(1, 4)", x.ofSpoon(1, 4), 13);
        for (int w = 0; w < 12; w++) {
            String call = "ofSpoon(1, " + (w + 5) + ")";
            Due.due(call, x.ofSpoon(1, w + 5), (w * 7 + 3) % 10);
        }
        Due.due("ofSpoon(0, 3)", x.ofSpoon(0, 3), 0);
        Due.due("ofSpoon(-1, 0)", x.ofSpoon(-1, 0), Due.BEYOND);
        Due.due("ofSpoon(2, 0)", x.ofSpoon(2, 0), Due.BEYOND);
        Due.due("ofSpoon(0, -1)", x.ofSpoon(0, -1), Due.BEYOND);
        Due.due("ofSpoon(0, 17)", x.ofSpoon(0, 17), Due.BEYOND);
        for (int far : FAR) {
            Due.due("ofSpoon(" + far + ", 0)", x.ofSpoon(far, 0), Due.BEYOND);
            Due.due("ofSpoon(0, " + far + ")", x.ofSpoon(0, far), Due.BEYOND);
        }
        Due.due("told(1)", x.told(1), 12);
    }

    private static void wears() {
        Due.topic("promise 10, WEARS");
        int[][] due = {{1, 1, 1}, {2, 2, 2}, {1, 1, 1}, {3, 3, 3}, {2, 2, 2}, {0, 1, 1}, {3, 4, 15}};
        for (int kind = 0; kind < 7; kind++) {
            SpoonsLast x = new SpoonsLast();
            x.spoon(10 * kind + 5, 9);
            Due.due("kind " + kind + ", none on it", x.ofSpoon(0, 4), due[kind][0]);
            x.change(0, 12, 1);
            Due.due("kind " + kind + ", one on it", x.ofSpoon(0, 4), due[kind][1]);
            for (int what = 1; what <= 11; what++) {
                x.change(0, what, 9);
            }
            Due.due("kind " + kind + ", all on it", x.ofSpoon(0, 4), due[kind][2]);
            // The TEXT r*100+s*10+n, less than 20 at the first kind alone.
            Texts.feed(x, "r*2+n-s");
            x.text(1);
            x.change(0, 0, 13);
            int free = 2 * due[kind][2] + 12 - 13;
            Due.due("kind " + kind + ", by a text", x.ofSpoon(0, 4), Math.min(20, free));
            x.change(0, 0, 99);
            Due.due("kind " + kind + ", by a text, held", x.ofSpoon(0, 4), 0);
        }
    }

    private static void change() {
        Due.topic("promise 11");
        SpoonsLast x = new SpoonsLast();
        x.spoon(25, 7);
        x.spoon(35, 8);
        Due.due("change(0, 0, 99)", x.change(0, 0, 99), 7);
        Due.due("change(0, 0, 0)", x.change(0, 0, 0), 99);
        Due.due("change(0, 0, 12)", x.change(0, 0, 12), 0);
        for (int what = 1; what <= 12; what++) {
            Due.due("change(1, " + what + ", 9)", x.change(1, what, 9), 0);
            Due.due("ofSpoon(1, 3)", x.ofSpoon(1, 3), (1 << what) - 1);
        }
        for (int what = 1; what <= 12; what++) {
            Due.due("change(1, " + what + ", 0)", x.change(1, what, 0), 9);
            Due.due("ofSpoon(1, 3)", x.ofSpoon(1, 3), 4095 - ((1 << what) - 1));
            Due.due("change(1, " + what + ", 5)", x.change(1, what, 5), 0);
            Due.due("change(1, " + what + ", 0)", x.change(1, what, 0), 5);
        }
        x.change(1, 6, 4);
        int[][] wrong = {{-1, 0, 0}, {2, 0, 0}, {1, -1, 0}, {1, 13, 0}, {1, 0, -1}, {1, 0, 100},
            {1, 6, -1}, {1, 6, 10}, {1, 12, 10}, {1, 1, 99}};
        for (int[] a : wrong) {
            String call = "change(" + a[0] + ", " + a[1] + ", " + a[2] + ")";
            Due.due(call, x.change(a[0], a[1], a[2]), Due.BEYOND);
        }
        for (int far : FAR) {
            Due.due("change(" + far + ", 0, 0)", x.change(far, 0, 0), Due.BEYOND);
            Due.due("change(0, " + far + ", 0)", x.change(0, far, 0), Due.BEYOND);
            Due.due("change(0, 0, " + far + ")", x.change(0, 0, far), Due.BEYOND);
            Due.due("change(0, 6, " + far + ")", x.change(0, 6, far), Due.BEYOND);
        }
        Due.due("told(1)", x.told(1), 26);
        Due.due("ofSpoon(0, 2)", x.ofSpoon(0, 2), 12);
        Due.due("ofSpoon(1, 2)", x.ofSpoon(1, 2), 8);
        Due.due("ofSpoon(1, 3)", x.ofSpoon(1, 3), 32);
        Due.due("ofSpoon(1, 10)", x.ofSpoon(1, 10), 4);
        Due.due("ofSpoon(0, 3)", x.ofSpoon(0, 3), 0);
        // Nothing is told of what is ON a SPOON that is made THROUGH by hand.
        Due.due("change(1, 0, 0)", x.change(1, 0, 0), 8);
        Due.due("count(3)", x.count(3), 0);
        Due.due("ofSpoon(1, 3)", x.ofSpoon(1, 3), 32);
        Due.due("change(1, 1, 3)", x.change(1, 1, 3), 0);
    }

    private static void become() {
        Due.topic("promise 12");
        SpoonsLast x = new SpoonsLast();
        x.spoon(25, 7);
        x.spoon(0, 1);
        x.change(0, 4, 6);
        Due.due("become(0, 69)", x.become(0, 69), 2);
        Due.due("ofSpoon(0, 0)", x.ofSpoon(0, 0), 6);
        Due.due("ofSpoon(0, 1)", x.ofSpoon(0, 1), 9);
        Due.due("ofSpoon(0, 2)", x.ofSpoon(0, 2), 7);
        Due.due("ofSpoon(0, 3)", x.ofSpoon(0, 3), 8);
        Due.due("ofSpoon(0, 8)", x.ofSpoon(0, 8), 6);
        Due.due("become(0, 0)", x.become(0, 0), 6);
        Due.due("become(0, 43)", x.become(0, 43), 0);
        Due.due("become(-1, 0)", x.become(-1, 0), Due.BEYOND);
        Due.due("become(2, 0)", x.become(2, 0), Due.BEYOND);
        Due.due("become(0, -1)", x.become(0, -1), Due.BEYOND);
        Due.due("become(0, 70)", x.become(0, 70), Due.BEYOND);
        for (int far : FAR) {
            Due.due("become(" + far + ", 0)", x.become(far, 0), Due.BEYOND);
            Due.due("become(0, " + far + ")", x.become(0, far), Due.BEYOND);
        }
        Due.due("told(1)", x.told(1), 12);
        Due.due("ofSpoon(0, 0)", x.ofSpoon(0, 0), 4);
        Due.due("ofSpoon(0, 1)", x.ofSpoon(0, 1), 3);
        Due.due("ofSpoon(1, 0)", x.ofSpoon(1, 0), 0);
        Due.due("ofSpoon(1, 1)", x.ofSpoon(1, 1), 0);
    }

    private static void as() {
        Due.topic("promise 13");
        String[] is = {"1000000", "1100000", "1010000", "1001000", "1100100", "1010010", "1001001"};
        int kinds = 0;
        SpoonsLast x = new SpoonsLast();
        x.spoon(0, 5);
        for (int own = 0; own < 7; own++) {
            x.become(0, 10 * own + own + 2);
            for (int kind = 0; kind < 7; kind++) {
                boolean may = is[own].charAt(kind) == '1';
                kinds += may ? 0 : 1;
                String call = "as(0, " + kind + ") of kind " + own;
                Due.due(call, x.as(0, kind), may ? own + 2 : Due.KIND);
            }
        }
        Due.due("told(5)", x.told(5), kinds);
        Due.due("as(-1, 0)", x.as(-1, 0), Due.BEYOND);
        Due.due("as(1, 0)", x.as(1, 0), Due.BEYOND);
        Due.due("as(0, -1)", x.as(0, -1), Due.BEYOND);
        Due.due("as(0, 7)", x.as(0, 7), Due.BEYOND);
        for (int far : FAR) {
            Due.due("as(" + far + ", 0)", x.as(far, 0), Due.BEYOND);
            Due.due("as(0, " + far + ")", x.as(0, far), Due.BEYOND);
        }
        Due.due("told(1)", x.told(1), 12);
    }
}
