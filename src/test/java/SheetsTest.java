/** Promises 36 to 40: sheets. */
public final class SheetsTest {
    private static final int[] FAR = {Integer.MIN_VALUE, -1000, 1000000, Integer.MAX_VALUE};

    private SheetsTest() {
    }

    public static void main(String[] args) {
        sheet();
        sheetOrder();
        put();
        putBits();
        move();
        moveEdges();
        weights();
        judge();
        Due.end();
    }

    /** How many numbers a SHEET has, by which number there is none of; -1: it is missing. */
    private static int length(SpoonsLast x, int sheet) {
        int n = 0;
        while (n < 50 && x.move(sheet, n, sheet, n, 1) == 1) {
            n++;
        }
        return x.move(sheet, 0, sheet, 0, 0) == 0 ? n : -1;
    }

    /** Whether a SHEET is of these numbers, all 0 to 99, which are SILVER for this. */
    private static void has(SpoonsLast x, int sheet, int... numbers) {
        for (int i = 0; i < numbers.length; i++) {
            x.change(i, 0, numbers[i]);
        }
        Due.due("the numbers of sheet " + sheet, x.judge(sheet), -1);
    }

    private static SpoonsLast withSpoons(int n) {
        SpoonsLast x = new SpoonsLast();
        for (int s = 0; s < n; s++) {
            x.spoon(10 * (s % 7), s + 1);
        }
        return x;
    }

    private static void sheet() {
        Due.topic("promise 36");
        SpoonsLast x = withSpoons(3);
        for (int t = 0; t < 4; t++) {
            Due.due("missing at first", length(x, t), -1);
        }
        Due.due("sheet(0, 8, 3)", x.sheet(0, 8, 3), 1);
        Due.due("sheet(1, 16, 40)", x.sheet(1, 16, 40), 1);
        Due.due("sheet(2, 32, 0)", x.sheet(2, 32, 0), 1);
        Due.due("length of 0", length(x, 0), 3);
        Due.due("length of 1", length(x, 1), 40);
        Due.due("length of 2", length(x, 2), 0);
        Due.due("length of 3", length(x, 3), -1);
        has(x, 0, 0, 0, 0);
        x.put(0, 0, 5);
        x.put(0, 1, 6);
        x.put(0, 2, 7);
        has(x, 0, 5, 6, 7);
        Due.due("sheet(0, 8, 3)", x.sheet(0, 8, 3), 1);
        has(x, 0, 0, 0, 0);
        x.put(0, 2, 7);
        Due.due("sheet(0, 32, 1)", x.sheet(0, 32, 1), 1);
        Due.due("length of 0", length(x, 0), 1);
        Due.due("sheet(0, 8, 3)", x.sheet(0, 8, 3), 1);
        has(x, 0, 0, 0, 0);
        Due.due("sheet(0, 0, 3)", x.sheet(0, 0, 3), 1);
        Due.due("length of 0", length(x, 0), -1);
        Due.due("missing", x.put(0, 0, 1), Due.NONE);
        Due.due("n doesn't matter", x.sheet(1, 0, -1), 1);
        Due.due("length of 1", length(x, 1), -1);
        Due.due("n doesn't matter", x.sheet(2, 0, 41), 1);
        Due.due("n doesn't matter", x.sheet(3, 0, Integer.MIN_VALUE), 1);
        Due.due("n doesn't matter", x.sheet(3, 0, Integer.MAX_VALUE), 1);
        Due.due("told(3)", x.told(3), 0);
        Due.due("sheet(3, 16, 40)", x.sheet(3, 16, 40), 1);
        Due.due("length of 3", length(x, 3), 40);
    }

    private static void sheetOrder() {
        Due.topic("promise 36, ERRORS");
        SpoonsLast x = withSpoons(2);
        x.sheet(0, 8, 2);
        x.put(0, 1, 4);
        int[][] wrong = {{-1, 8, 1}, {4, 8, 1}, {0, -1, 1}, {0, 1, 1}, {0, 7, 1}, {0, 9, 1}, {0, 4, 1},
            {0, 24, 1}, {0, 31, 1}, {0, 33, 1}, {0, 64, 1}, {0, -8, 1}, {0, 8, 41}, {0, 16, 41},
            {0, 32, 41}, {0, 8, Integer.MAX_VALUE}, {4, 8, -1}, {-1, 0, -1}, {0, 12, -1}, {4, 0, 0}};
        for (int[] a : wrong) {
            String call = "sheet(" + a[0] + ", " + a[1] + ", " + a[2] + ")";
            Due.due(call, x.sheet(a[0], a[1], a[2]), Due.BEYOND);
        }
        for (int far : FAR) {
            Due.due("sheet(" + far + ", 8, 1)", x.sheet(far, 8, 1), Due.BEYOND);
            Due.due("sheet(0, " + far + ", 1)", x.sheet(0, far, 1), Due.BEYOND);
        }
        Due.due("told(1)", x.told(1), 28);
        Due.due("sheet(0, 8, -1)", x.sheet(0, 8, -1), Due.STATE);
        Due.due("sheet(0, 16, -1)", x.sheet(0, 16, -1), Due.STATE);
        Due.due("sheet(0, 32, least)", x.sheet(0, 32, Integer.MIN_VALUE), Due.STATE);
        Due.due("told(3)", x.told(3), 3);
        has(x, 0, 0, 4);
    }

    private static void put() {
        Due.topic("promise 37");
        SpoonsLast x = withSpoons(4);
        x.sheet(0, 8, 4);
        x.sheet(1, 16, 4);
        for (int i = 0; i < 4; i++) {
            Due.due("put(0, " + i + ")", x.put(0, i, 90 + i), 1);
            Due.due("put(1, " + i + ")", x.put(1, i, 10 + i), 1);
        }
        has(x, 0, 90, 91, 92, 93);
        has(x, 1, 10, 11, 12, 13);
        Due.due("put(0, -1, 0)", x.put(0, -1, 0), Due.BEYOND);
        Due.due("put(0, 4, 0)", x.put(0, 4, 0), Due.BEYOND);
        Due.due("put(-1, 0, 0)", x.put(-1, 0, 0), Due.BEYOND);
        Due.due("put(4, 0, 0)", x.put(4, 0, 0), Due.BEYOND);
        for (int far : FAR) {
            Due.due("put(" + far + ", 0, 0)", x.put(far, 0, 0), Due.BEYOND);
            Due.due("put(0, " + far + ", 0)", x.put(0, far, 0), Due.BEYOND);
        }
        Due.due("put(2, 0, 0)", x.put(2, 0, 0), Due.NONE);
        Due.due("put(2, -1, 0)", x.put(2, -1, 0), Due.NONE);
        Due.due("put(3, 99, 0)", x.put(3, 99, 0), Due.NONE);
        Due.due("put(4, -1, 0)", x.put(4, -1, 0), Due.BEYOND);
        Due.due("told(1)", x.told(1), 13);
        Due.due("told(2)", x.told(2), 3);
        has(x, 0, 90, 91, 92, 93);
        x.sheet(3, 32, 0);
        Due.due("put(3, 0, 0)", x.put(3, 0, 0), Due.BEYOND);
        x.sheet(3, 32, 40);
        Due.due("put(3, 39, 0)", x.put(3, 39, 0), 1);
        Due.due("put(3, 40, 0)", x.put(3, 40, 0), Due.BEYOND);
        x.sheet(3, 0, 40);
        Due.due("put(3, 39, 0)", x.put(3, 39, 0), Due.NONE);
    }

    private static void putBits() {
        Due.topic("promise 37, bits");
        int[] values = {0x00000005, 0x00000105, 0x00010005, 0x01000005, 0x7FFFFF05, 0xFFFFFF05,
            0xFFFF0005, 0x7FFF0005, 0x80000005, 0x00000095, 0x00008005, 0x00008095, -1, 99, 100};
        for (int v : values) {
            for (int bits = 8; bits <= 32; bits *= 2) {
                SpoonsLast x = withSpoons(1);
                x.sheet(0, bits, 1);
                Due.due("put(0, 0, " + v + ")", x.put(0, 0, v), 1);
                x.change(0, 0, v == 99 ? 99 : 5);
                int low = bits == 8 ? (byte) v : bits == 16 ? (short) v : v;
                boolean is = low == 5 || low == 99;
                Due.due(bits + " bits of " + v, x.judge(0), is ? -1 : 0);
            }
        }
    }

    private static SpoonsLast five() {
        SpoonsLast x = withSpoons(5);
        for (int t = 0; t < 2; t++) {
            x.sheet(t, 8, 5);
            for (int i = 0; i < 5; i++) {
                x.put(t, i, 10 * (t + 1) + i);
            }
        }
        return x;
    }

    private static void move() {
        Due.topic("promise 38");
        SpoonsLast x = five();
        Due.due("move(0, 1, 1, 2, 3)", x.move(0, 1, 1, 2, 3), 3);
        has(x, 1, 20, 21, 11, 12, 13);
        has(x, 0, 10, 11, 12, 13, 14);
        x = five();
        Due.due("move(0, 0, 0, 1, 4)", x.move(0, 0, 0, 1, 4), 4);
        has(x, 0, 10, 10, 11, 12, 13);
        has(x, 1, 20, 21, 22, 23, 24);
        x = five();
        Due.due("move(0, 1, 0, 0, 4)", x.move(0, 1, 0, 0, 4), 4);
        has(x, 0, 11, 12, 13, 14, 14);
        Due.due("move(1, 0, 0, 0, 5)", x.move(1, 0, 0, 0, 5), 5);
        has(x, 0, 20, 21, 22, 23, 24);
        Due.due("move(1, 5, 0, 5, 0)", x.move(1, 5, 0, 5, 0), 0);
        Due.due("move(1, 0, 0, 5, 0)", x.move(1, 0, 0, 5, 0), 0);
        has(x, 0, 20, 21, 22, 23, 24);
        x.sheet(2, 16, 1);
        x.sheet(3, 16, 2);
        x.put(2, 0, 0x1234);
        Due.due("16 bits", x.move(2, 0, 3, 1, 1), 1);
        x.put(3, 0, 0x12);
        Due.due("16 bits", x.move(3, 0, 2, 0, 1), 1);
        x.sheet(2, 32, 2);
        x.sheet(3, 32, 2);
        x.put(2, 0, 9);
        Due.due("32 bits", x.move(2, 0, 3, 1, 1), 1);
        Due.due("weights(3)", x.weights(3), 2);
        Due.due("ofWord(1, 0)", x.ofWord(1, 0), 9);
    }

    private static void moveEdges() {
        Due.topic("promise 38, ERRORS");
        SpoonsLast x = five();
        x.sheet(2, 16, 5);
        Due.due("no such SHEET", x.move(-1, 0, 0, 0, 1), Due.BEYOND);
        Due.due("no such SHEET", x.move(4, 0, 0, 0, 1), Due.BEYOND);
        Due.due("no such SHEET", x.move(0, 0, -1, 0, 1), Due.BEYOND);
        Due.due("no such SHEET", x.move(0, 0, 4, 0, 1), Due.BEYOND);
        Due.due("no such SHEET, one missing", x.move(3, 0, 4, 0, 1), Due.BEYOND);
        Due.due("no such SHEET, one missing", x.move(-1, 0, 3, 0, 1), Due.BEYOND);
        Due.due("one missing", x.move(3, 0, 0, 0, 1), Due.NONE);
        Due.due("one missing", x.move(0, 0, 3, 0, 1), Due.NONE);
        Due.due("both missing", x.move(3, 0, 3, 0, 0), Due.NONE);
        Due.due("one missing, n below 0", x.move(0, 0, 3, 0, -1), Due.NONE);
        Due.due("unlike bits", x.move(0, 0, 2, 0, 1), Due.KIND);
        Due.due("unlike bits", x.move(2, 0, 0, 0, 0), Due.KIND);
        Due.due("unlike bits, i below 0", x.move(2, -1, 0, 0, 1), Due.KIND);
        int[][] wrong = {{-1, 0, 1}, {0, -1, 1}, {0, 0, -1}, {0, 0, 6}, {5, 0, 1}, {0, 5, 1}, {1, 0, 5},
            {0, 1, 5}, {4, 0, 2}, {0, 4, 2}, {6, 0, 0}, {0, 6, 0}, {-1, 0, 0}, {0, -1, 0},
            {Integer.MAX_VALUE, 0, 1}, {0, Integer.MAX_VALUE, 1}, {0, 0, Integer.MAX_VALUE},
            {1, 0, Integer.MAX_VALUE}, {0, 1, Integer.MAX_VALUE}, {Integer.MIN_VALUE, 0, 1},
            {0, Integer.MIN_VALUE, 1}, {0, 0, Integer.MIN_VALUE}, {Integer.MAX_VALUE, 0, Integer.MAX_VALUE},
            {Integer.MIN_VALUE, 0, Integer.MIN_VALUE}};
        for (int[] a : wrong) {
            String call = "move(0, " + a[0] + ", 1, " + a[1] + ", " + a[2] + ")";
            Due.due(call, x.move(0, a[0], 1, a[1], a[2]), Due.BEYOND);
        }
        Due.due("told(1)", x.told(1), 6 + wrong.length);
        Due.due("told(2)", x.told(2), 4);
        Due.due("told(5)", x.told(5), 3);
        has(x, 0, 10, 11, 12, 13, 14);
        has(x, 1, 20, 21, 22, 23, 24);
        // Of two lengths.
        x.sheet(1, 8, 2);
        Due.due("more than the other has", x.move(0, 0, 1, 0, 3), Due.BEYOND);
        Due.due("more than this has", x.move(1, 0, 0, 0, 3), Due.BEYOND);
        Due.due("both", x.move(0, 3, 1, 0, 2), 2);
        Due.due("put back", x.move(1, 0, 0, 0, 2), 2);
        has(x, 0, 13, 14, 12, 13, 14);
    }

    private static void sheetOf(SpoonsLast x, int sheet, int bits, int... numbers) {
        x.sheet(sheet, bits, numbers.length);
        for (int i = 0; i < numbers.length; i++) {
            x.put(sheet, i, numbers[i]);
        }
    }

    private static void weights() {
        Due.topic("promise 39");
        SpoonsLast x = new SpoonsLast();
        sheetOf(x, 0, 8, 9, 0, 5);
        Due.due("weights(0)", x.weights(0), 3);
        int[] due = {9, 0, 5, 3, 4, 5, 6, 7, 8, 9, 0, 1};
        for (int w = 0; w < 12; w++) {
            Due.due("ofWord(" + w + ", 0)", x.ofWord(w, 0), due[w]);
        }
        sheetOf(x, 1, 16, 1, 2, 10, 4);
        Due.due("up to 10", x.weights(1), 2);
        Due.due("ofWord(0, 0)", x.ofWord(0, 0), 1);
        Due.due("ofWord(1, 0)", x.ofWord(1, 0), 2);
        Due.due("ofWord(2, 0)", x.ofWord(2, 0), 5);
        Due.due("ofWord(3, 0)", x.ofWord(3, 0), 3);
        sheetOf(x, 1, 32, 7, -1, 4);
        Due.due("up to -1", x.weights(1), 1);
        sheetOf(x, 1, 8, 7, 255, 4);
        Due.due("up to 255", x.weights(1), 1);
        sheetOf(x, 1, 8, -1, 4);
        Due.due("none", x.weights(1), 0);
        sheetOf(x, 1, 8);
        Due.due("of an empty one", x.weights(1), 0);
        Due.due("ofWord(1, 0)", x.ofWord(1, 0), 2);
        sheetOf(x, 2, 32, 9, 8, 7, 6, 5, 4, 3, 2, 1, 0, 9, 8);
        Due.due("12 of them", x.weights(2), 12);
        for (int w = 0; w < 12; w++) {
            Due.due("ofWord(" + w + ", 0)", x.ofWord(w, 0), w < 10 ? 9 - w : 19 - w);
        }
        x.sheet(3, 8, 40);
        Due.due("no WORD for the 13th", x.weights(3), 12);
        Due.due("count(5)", x.count(5), 0);
        x.sheet(3, 8, 13);
        x.put(3, 12, 99);
        Due.due("no WORD for the 13th", x.weights(3), 12);
        Due.due("weights(-1)", x.weights(-1), Due.BEYOND);
        Due.due("weights(4)", x.weights(4), Due.BEYOND);
        for (int far : FAR) {
            Due.due("weights(" + far + ")", x.weights(far), Due.BEYOND);
        }
        x.sheet(3, 0, 0);
        Due.due("weights(3)", x.weights(3), Due.NONE);
        Due.due("told(1)", x.told(1), 6);
        Due.due("told(2)", x.told(2), 1);
    }

    private static void judge() {
        Due.topic("promise 40");
        SpoonsLast x = new SpoonsLast();
        x.sheet(0, 8, 0);
        Due.due("nothing of no SPOONS", x.judge(0), -1);
        x.sheet(0, 8, 1);
        Due.due("one too many", x.judge(0), 0);
        x = withSpoons(3);
        sheetOf(x, 0, 8, 1, 2, 3);
        Due.due("all are", x.judge(0), -1);
        sheetOf(x, 0, 16, 1, 2);
        Due.due("the third lacks", x.judge(0), 2);
        sheetOf(x, 0, 32, 1, 2, 3, 0);
        Due.due("one too many", x.judge(0), 3);
        sheetOf(x, 0, 32, 1, 2, 3, 0, 0);
        Due.due("two too many", x.judge(0), 3);
        sheetOf(x, 0, 32, 0, 2, 3);
        Due.due("the first isn't", x.judge(0), 0);
        sheetOf(x, 0, 32, 1, 4, 3, 9);
        Due.due("the second isn't", x.judge(0), 1);
        sheetOf(x, 0, 32, 1, 2, -3);
        Due.due("the third isn't", x.judge(0), 2);
        sheetOf(x, 0, 32);
        Due.due("the first lacks", x.judge(0), 0);
        sheetOf(x, 0, 8, 1, 2, 3);
        x.change(2, 0, 0);
        Due.due("of other SILVER", x.judge(0), 2);
        sheetOf(x, 0, 8, 1, 2, 0);
        Due.due("THROUGH is 0", x.judge(0), -1);
        x.sheet(1, 8, 40);
        Due.due("40 numbers", x.judge(1), 0);
        Due.due("judge(2)", x.judge(2), Due.NONE);
        Due.due("judge(-1)", x.judge(-1), Due.BEYOND);
        Due.due("judge(4)", x.judge(4), Due.BEYOND);
        for (int far : FAR) {
            Due.due("judge(" + far + ")", x.judge(far), Due.BEYOND);
        }
        Due.due("told(1)", x.told(1), 6);
        Due.due("told(2)", x.told(2), 1);
        x = withSpoons(8);
        sheetOf(x, 0, 8, 1, 2, 3, 4, 5, 6, 7, 8);
        Due.due("of 8", x.judge(0), -1);
        sheetOf(x, 0, 8, 1, 2, 3, 4, 5, 6, 7, 9);
        Due.due("the last isn't", x.judge(0), 7);
        sheetOf(x, 0, 8, 1, 2, 3, 4, 5, 6, 7);
        Due.due("the last lacks", x.judge(0), 7);
        sheetOf(x, 0, 8, 1, 2, 3, 4, 5, 6, 7, 8, 0);
        Due.due("a ninth", x.judge(0), 8);
    }
}
