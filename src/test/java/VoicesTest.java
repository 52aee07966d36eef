/** Promises 33 to 35: the draws' z, voices and their trace. */
public final class VoicesTest {
    private static final int[] FAR = {Integer.MIN_VALUE, -1000, 1000000, Integer.MAX_VALUE};

    /** What SPOON 2, m 3, of each KIND answers to 5: shines, dulls, holds, tells. */
    private static final int[][] ANSWERS = {{7, 14, 2, 12}, {21, 42, 2, 40}, {7, 16, 2, 18},
        {7, 14, -2, -16}, {21, 42, 2, 28}, {7, 18, 2, 16}, {7, 14, -4, 28}};

    private static final int[][][] TRACES = {
        {{10}, {11, 10}, {12}, {13, 11, 10, 12}},
        {{20, 10}, {11, 20, 10}, {12}, {13, 11, 20, 10, 12}},
        {{10}, {30, 11, 10, 12}, {12}, {13, 30, 11, 10, 12, 12}},
        {{10}, {11, 10}, {40, 12}, {13, 11, 10, 40, 12}},
        {{20, 10}, {11, 20, 10}, {12}, {50, 13, 11, 20, 10, 12, 20, 10}},
        {{10}, {60, 30, 11, 10, 12}, {12}, {13, 60, 30, 11, 10, 12, 12}},
        {{10}, {11, 10}, {70, 40, 12}, {71, 11, 10, 13, 11, 10, 70, 40, 12}},
    };

    private VoicesTest() {
    }

    public static void main(String[] args) {
        seed();
        voices();
        numbers();
        wraps();
        edges();
        errorsLookAlike();
        Due.end();
    }

    private static void seed() {
        Due.topic("promise 33");
        SpoonsLast x = new SpoonsLast();
        Due.due("seed(0)", x.seed(0), 1);
        int was = 0;
        for (int far : FAR) {
            Due.due("seed(" + far + ")", x.seed(far), was);
            Due.due("count(10)", x.count(10), far);
            was = far;
        }
        Due.due("seed(-1000000001)", x.seed(-1000000001), was);
        Due.due("seed(5)", x.seed(5), -1000000001);
        Due.due("told(1)", x.told(1), 0);
        // From 0: 12345 draws 48, and its next draws the WORD.
        x.seed(0);
        x.loose(1);
        long z = (12345L * 1103515245L + 12345L) & 0xFFFFFFFFL;
        Due.due("ofSwallow(0)", x.ofSwallow(0), 12 * (48 % 8 + 1) + (z >> 8) % 12);
        Due.due("count(10)", x.count(10), (int) z);
        // A negative z draws no negative number.
        x.seed(-1);
        x.loose(1);
        z = (-1L * 1103515245L + 12345L) & 0xFFFFFFFFL;
        long spoon = (z >> 8) % 8;
        z = (z * 1103515245L + 12345L) & 0xFFFFFFFFL;
        Due.due("ofSwallow(1)", x.ofSwallow(1), 12 * (spoon + 1) + (z >> 8) % 12);
    }

    private static void voices() {
        Due.topic("promise 34");
        SpoonsLast x = new SpoonsLast();
        x.spoon(0, 1);
        x.spoon(0, 1);
        x.spoon(0, 0);
        for (int kind = 0; kind < 7; kind++) {
            x.become(2, 10 * kind + 3);
            for (int act = 0; act < 4; act++) {
                Due.topic("promise 34, kind " + kind);
                Due.due("voice(2, " + act + ", 5)", x.voice(2, act, 5), ANSWERS[kind][act]);
                Due.topic("promise 35, kind " + kind + ", act " + act);
                int[] trace = TRACES[kind][act];
                Due.due("count(9)", x.count(9), trace.length);
                for (int i = 0; i < trace.length; i++) {
                    Due.due("trace(" + i + ")", x.trace(i), trace[i]);
                }
                Due.due("trace(" + trace.length + ")", x.trace(trace.length), Due.NONE);
                Due.due("trace(-1)", x.trace(-1), Due.NONE);
            }
        }
        Due.due("told(2)", x.told(2), 56);
    }

    private static void numbers() {
        Due.topic("promise 34, n and m");
        SpoonsLast x = new SpoonsLast();
        for (int s = 0; s < 8; s++) {
            x.spoon(s, 9);
            Due.due("shines of " + s, x.voice(s, 0, 100), 100 + s);
            Due.due("holds of " + s, x.voice(s, 2, 100), 100 - s);
        }
        for (int s = 0; s < 8; s++) {
            x.become(s, 60 + 9 - s);
            Due.due("holds of CADDY " + s, x.voice(s, 2, 0), (9 - s) ^ s);
            x.become(s, 50 + 9 - s);
            Due.due("dulls of MAIDEN " + s, x.voice(s, 1, 0), (1 + s) * 2 - 1 + 9 - s);
            x.become(s, 40 + 9 - s);
            int tells = ((s - 10) * 3 * 2 ^ -10 - (9 - s)) - (2 + s) * 3;
            Due.due("tells of SERVER " + s, x.voice(s, 3, -10), tells);
        }
    }

    private static void wraps() {
        Due.topic("promise 34, wraps");
        SpoonsLast x = new SpoonsLast();
        x.spoon(1, 9);
        x.spoon(11, 9);
        Due.due("shines", x.voice(1, 0, Integer.MAX_VALUE), Integer.MIN_VALUE * 3);
        Due.due("dulls", x.voice(0, 1, Integer.MAX_VALUE), -2);
        Due.due("holds", x.voice(0, 2, Integer.MIN_VALUE), Integer.MAX_VALUE);
        Due.due("holds", x.voice(0, 2, -1000000000), -1000000001);
        Due.due("told(1)", x.told(1), 0);
        x.become(1, 35);
        Due.due("holds of SALT", x.voice(1, 2, Integer.MIN_VALUE + 5), Integer.MIN_VALUE);
        x.become(1, 59);
        Due.due("dulls of MAIDEN", x.voice(1, 1, Integer.MAX_VALUE), (Integer.MIN_VALUE + 1) * 2 + 8);
    }

    private static void edges() {
        Due.topic("promise 34, edges");
        SpoonsLast x = new SpoonsLast();
        Due.due("count(9)", x.count(9), 0);
        Due.due("trace(0)", x.trace(0), Due.NONE);
        Due.due("voice(0, 0, 0)", x.voice(0, 0, 0), Due.BEYOND);
        x.spoon(63, 9);
        Due.due("voice(0, 3, 1)", x.voice(0, 3, 1), 2);
        Due.due("voice(-1, 0, 0)", x.voice(-1, 0, 0), Due.BEYOND);
        Due.due("voice(1, 0, 0)", x.voice(1, 0, 0), Due.BEYOND);
        Due.due("voice(0, -1, 0)", x.voice(0, -1, 0), Due.BEYOND);
        Due.due("voice(0, 4, 0)", x.voice(0, 4, 0), Due.BEYOND);
        for (int far : FAR) {
            Due.due("voice(" + far + ", 0, 0)", x.voice(far, 0, 0), Due.BEYOND);
            Due.due("voice(0, " + far + ", 0)", x.voice(0, far, 0), Due.BEYOND);
        }
        Due.topic("promise 35, edges");
        Due.due("the latest voice's yet", x.count(9), 9);
        Due.due("trace(0)", x.trace(0), 71);
        Due.due("trace(8)", x.trace(8), 12);
        Due.due("trace(9)", x.trace(9), Due.NONE);
        Due.due("trace(39)", x.trace(39), Due.NONE);
        Due.due("trace(40)", x.trace(40), Due.NONE);
        for (int far : FAR) {
            Due.due("trace(" + far + ")", x.trace(far), Due.NONE);
        }
        Due.due("told(1)", x.told(1), 13);
        Due.due("told(2)", x.told(2), 8);
        x.voice(0, 0, 0);
        Due.due("a shorter one", x.count(9), 1);
        Due.due("trace(1)", x.trace(1), Due.NONE);
    }

    /** Any number may be answered; only what was refused is counted. */
    private static void errorsLookAlike() {
        Due.topic("promise 34, no ERROR");
        SpoonsLast x = new SpoonsLast();
        x.spoon(0, 9);
        for (int k = 1; k <= 5; k++) {
            Due.due("voice", x.voice(0, 0, Due.LOW - k), Due.LOW - k);
            x.seed(Due.LOW - k);
            Due.due("count(10)", x.count(10), Due.LOW - k);
            Due.due("told(" + k + ")", x.told(k), 0);
        }
    }
}
