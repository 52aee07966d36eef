/** Promises 17 and 18: how an hour goes, for each kind, and hours by draws. */
public final class HoursTest {
    private static final int[] FAR = {Integer.MIN_VALUE, -1000, 1000000, Integer.MAX_VALUE};

    private HoursTest() {
    }

    public static void main(String[] args) {
        stays();
        reads();
        through();
        order();
        places();
        listsWithoutSpoons();
        texts();
        rubText();
        hoursEdges();
        loose();
        looseEdges();
        Due.end();
    }

    /** One SPOON, km, SILVER, that the HOUR's SWALLOW gives WORD 6 of a WEIGHT. */
    private static SpoonsLast swallows(int km, int silver, int weight) {
        SpoonsLast x = new SpoonsLast();
        x.spoon(km, silver);
        x.word(6, weight);
        x.swallow(0, 0, 6);
        return x;
    }

    private static void stays() {
        Due.topic("promise 17, STAYS");
        // km, SILVER, WEIGHT, how long it STAYS
        int[][] rows = {
            {9, 50, 0, 3}, {0, 1, 9, 3}, {10, 50, 0, 3}, {19, 50, 1, 3}, {10, 50, 2, 4}, {10, 9, 5, 5},
            {10, 50, 9, 7}, {20, 50, 9, 3}, {29, 5, 9, 3}, {30, 50, 0, 0}, {30, 50, 1, 1},
            {39, 50, 5, 5}, {30, 50, 9, 9}, {30, 9, 4, 4}, {40, 50, 0, 6}, {40, 50, 1, 6},
            {40, 50, 3, 8}, {49, 50, 2, 8}, {40, 50, 4, 9}, {40, 50, 9, 9}, {50, 50, 9, 3},
            {52, 50, 0, 3}, {53, 50, 0, 4}, {55, 50, 9, 4}, {56, 50, 0, 5}, {59, 50, 0, 6},
            {60, 9, 0, 9}, {60, 1, 5, 9}, {60, 10, 0, 0}, {60, 10, 5, 5}, {69, 99, 7, 7}, {60, 11, 9, 9},
        };
        for (int[] r : rows) {
            SpoonsLast x = swallows(r[0], r[1], r[2]);
            String call = "km " + r[0] + ", silver " + r[1] + ", weight " + r[2];
            Due.due(call + ": hours(1)", x.hours(1), 0);
            Due.due(call, x.ofSpoon(0, 11), Math.max(0, r[3] - 1));
            Due.due(call + ": silver", x.ofSpoon(0, 2), r[1]);
            Due.due(call + ": all others", x.ofSpoon(0, 3), r[3] > 1 ? 64 : 0);
            x.hours(4);
            Due.due(call + ", 4 hours on", x.ofSpoon(0, 11), Math.max(0, r[3] - 5));
            x = swallows(r[0], r[1], r[2]);
            Texts.read(x, 0, "k-6");
            x.hours(1);
            boolean server = r[0] / 10 == 4;
            int free = (server ? 2 * (3 + r[2] / 2) : r[3]) - 6;
            Due.due(call + ", 6 less by a TEXT", x.ofSpoon(0, 11), Math.max(0, free - 1));
        }
        SpoonsLast x = swallows(0, 50, 5);
        x.change(0, 7, 4);
        x.hours(1);
        Due.due("what is fresher stays so", x.ofSpoon(0, 11), 3);
        x = swallows(0, 50, 5);
        x.change(0, 7, 2);
        x.hours(1);
        Due.due("what is less fresh becomes so", x.ofSpoon(0, 11), 2);
        x = swallows(0, 0, 5);
        x.hours(1);
        Due.due("one that is THROUGH swallows nothing", x.ofSpoon(0, 11), 0);
    }

    private static void reads() {
        Due.topic("promise 17, READ");
        // km, how FRESH a WORD must be
        int[][] rows = {{0, 3}, {9, 3}, {10, 2}, {19, 2}, {20, 5}, {29, 5}, {30, 3}, {39, 3},
            {40, 2}, {44, 2}, {45, 1}, {49, 1}, {50, 5}, {59, 5}, {60, 9}, {69, 9}};
        for (int[] r : rows) {
            for (int f = 0; f <= 9; f++) {
                SpoonsLast x = new SpoonsLast();
                x.spoon(r[0], 50);
                x.wash(0, 0);
                x.change(0, 1, f);
                x.change(0, 12, f);
                int wears = x.ofSpoon(0, 4);
                String call = "km " + r[0] + ", fresh " + f;
                Due.due(call + ": hours(1)", x.hours(1), f >= r[1] ? 2049 : 0);
                Due.due(call + ": silver", x.ofSpoon(0, 2), 50 - wears);
                Due.due(call + ": WORD 0 then", x.ofSpoon(0, 5), Math.max(0, f / 2 - 1));
                Due.due(call + ": WORD 11 then", x.ofSpoon(0, 16), Math.max(0, f / 2 - 1));
            }
        }
        for (int word = 0; word < 12; word++) {
            for (int f = 0; f <= 9; f++) {
                SpoonsLast x = new SpoonsLast();
                x.spoon(0, 50);
                x.wash(0, 0);
                x.change(0, 1 + word, f);
                x.change(0, 1 + (word + 1) % 12, 9);
                x.change(0, 1 + (word + 11) % 12, 9);
                x.hours(1);
                Due.due("WORD " + word + " by half", x.ofSpoon(0, 5 + word), Math.max(0, f / 2 - 1));
                x.change(0, 1 + word, f);
                x.hours(1);
                Due.due("WORD " + word + " less by 1", x.ofSpoon(0, 5 + word), Math.max(0, f - 1));
                Due.due("WORD before", x.ofSpoon(0, 5 + (word + 11) % 12), 2);
                Due.due("WORD behind", x.ofSpoon(0, 5 + (word + 1) % 12), 2);
            }
        }
        SpoonsLast x = new SpoonsLast();
        x.spoon(25, 50);
        x.wash(0, 0);
        x.known(5);
        x.change(0, 1, 4);
        x.change(0, 2, 5);
        x.change(0, 4, 4);
        x.change(0, 7, 9);
        Due.due("what was KNOWN stays so", x.hours(1), 5 + 2 + 64);
    }

    private static void through() {
        Due.topic("promise 17, THROUGH");
        // km, how much it wears with three WORDS ON it
        int[][] rows = {{0, 1}, {10, 2}, {20, 1}, {30, 3}, {40, 2}, {50, 1}, {60, 6}};
        for (int[] r : rows) {
            for (int silver = 1; silver <= 8; silver++) {
                SpoonsLast x = new SpoonsLast();
                x.spoon(r[0], silver);
                x.wash(0, 0);
                x.change(0, 2, 1);
                x.change(0, 5, 1);
                x.change(0, 11, 1);
                boolean through = silver <= r[1];
                boolean reads = false;
                String call = "km " + r[0] + ", silver " + silver;
                Due.due(call, x.hours(1), through || reads ? 2 + 16 + 1024 : 0);
                Due.due(call + ": silver", x.ofSpoon(0, 2), through ? 0 : silver - r[1]);
                Due.due(call + ": words on it", x.ofSpoon(0, 3), 0);
            }
        }
        SpoonsLast x = new SpoonsLast();
        x.spoon(20, 1);
        x.wash(0, 0);
        x.change(0, 1, 9);
        x.change(0, 12, 4);
        Due.due("all that is ON it", x.hours(1), 2049);
        Due.due("none is ON it", x.ofSpoon(0, 3), 0);
        x.change(0, 3, 9);
        x.wash(1, 0);
        Due.due("it is washed no more", x.hours(1), 2049);
        Due.due("but what is ON it fades", x.ofSpoon(0, 7), 8);
        x.hours(5);
        Due.due("to the end", x.ofSpoon(0, 7), 3);
        x.hours(4);
        Due.due("and is gone", x.ofSpoon(0, 3), 0);
    }

    private static void order() {
        Due.topic("promise 17, order");
        SpoonsLast x = swallows(0, 50, 5);
        x.wash(0, 0);
        Due.due("swallowed, then washed", x.hours(1), 64);
        Due.due("halved, then less", x.ofSpoon(0, 11), 0);
        x = swallows(30, 50, 9);
        x.wash(0, 0);
        Due.due("9 is read", x.hours(1), 64);
        Due.due("9, 4, 3", x.ofSpoon(0, 11), 3);
        Due.due("count(1)", x.count(1), 1);
        x = swallows(60, 10, 4);
        x.wash(0, 0);
        x.change(0, 1, 1);
        Due.due("with two ON it", x.hours(1), 0);
        Due.due("it wears 5", x.ofSpoon(0, 2), 5);
        x = swallows(60, 9, 4);
        x.wash(0, 0);
        Due.due("9 for little silver, told by 9", x.hours(1), 64);
        Due.due("it wears 4", x.ofSpoon(0, 2), 5);
    }

    private static void places() {
        Due.topic("promise 17, places");
        SpoonsLast x = new SpoonsLast();
        for (int p = 0; p < 6; p++) {
            x.spoon(30, 99);
            x.word(p + 5, 9);
            x.swallow(p, p, p + 5);
        }
        for (int h = 0; h < 15; h++) {
            Due.due("count(1)", x.count(1), h);
            x.hours(1);
            Due.due("hour " + h, x.ofSpoon(h % 6, 5 + h % 6 + 5), 8);
            int before = (h + 5) % 6;
            Due.due("ahead of hour " + h, x.ofSpoon(before, 5 + before + 5), h == 0 ? 0 : 7);
        }
        SpoonsLast y = new SpoonsLast();
        for (int p = 0; p < 4; p++) {
            y.spoon(0, 10);
            y.wash(p, p);
        }
        for (int h = 0; h < 9; h++) {
            y.hours(1);
            for (int s = 0; s < 4; s++) {
                Due.due("hour " + h + ", spoon " + s, y.ofSpoon(s, 2), 10 - (h + 4 - s) / 4);
            }
        }
        y.hours(3);
        Due.due("twelve hours", y.count(4), 28);
        Due.due("count(1)", y.count(1), 12);
    }

    private static void listsWithoutSpoons() {
        Due.topic("promise 17, no such spoon");
        SpoonsLast x = new SpoonsLast();
        for (int p = 0; p < 6; p++) {
            x.swallow(p, p + 1, 3);
        }
        for (int p = 0; p < 4; p++) {
            x.wash(p, p + 1);
        }
        Due.due("hours(60)", x.hours(60), 0);
        x.spoon(30, 9);
        x.spoon(30, 9);
        Due.due("count(1)", x.count(1), 60);
        Due.due("hours(1)", x.hours(1), 8);
        Due.due("ofSpoon(1, 2)", x.ofSpoon(1, 2), 6);
        Due.due("ofSpoon(0, 2)", x.ofSpoon(0, 2), 9);
        Due.due("ofSpoon(0, 3)", x.ofSpoon(0, 3), 0);
    }

    private static void texts() {
        Due.topic("promise 17, FRESH");
        SpoonsLast x = swallows(10, 40, 4);
        Texts.read(x, 0, "k+w/2-s/20");
        x.hours(1);
        Due.due("5 + 2 - 2", x.ofSpoon(0, 11), 4);
        x = swallows(40, 40, 9);
        Texts.read(x, 0, "k-10");
        x.hours(1);
        Due.due("14 - 10", x.ofSpoon(0, 11), 3);
        x = swallows(0, 40, 9);
        Texts.read(x, 0, "k*4");
        x.hours(1);
        Due.due("held to 9", x.ofSpoon(0, 11), 8);
        x = swallows(0, 40, 9);
        Texts.read(x, 0, "0-k");
        x.hours(1);
        Due.due("held to 0", x.ofSpoon(0, 11), 0);
        x = swallows(0, 40, 9);
        Texts.read(x, 0, "1");
        x.change(0, 7, 4);
        x.hours(1);
        Due.due("no less than it was", x.ofSpoon(0, 11), 3);
        x = swallows(0, 77, 3);
        Texts.read(x, 0, "(s=77)*5+(w=3)*2+(k=3)");
        x.hours(1);
        Due.due("k, w, s in their places", x.ofSpoon(0, 11), 7);
    }

    private static void rubText() {
        Due.topic("promise 17, RUB");
        SpoonsLast x = new SpoonsLast();
        x.spoon(60, 50);
        x.wash(0, 0);
        x.change(0, 1, 8);
        x.change(0, 2, 1);
        x.change(0, 3, 1);
        Texts.read(x, 1, "r*2-n+s/10");
        Due.due("hours(1)", x.hours(1), 0);
        Due.due("6 * 2 - 3 + 5", x.ofSpoon(0, 2), 36);
        x = new SpoonsLast();
        x.spoon(0, 50);
        x.wash(0, 0);
        Texts.read(x, 1, "s");
        x.hours(1);
        Due.due("held to 20", x.ofSpoon(0, 2), 30);
        x.hours(4);
        Due.due("held to 20 again", x.ofSpoon(0, 2), 10);
        x.change(0, 5, 1);
        x.hours(3);
        x.change(0, 5, 1);
        Due.due("10 by 10, THROUGH", x.hours(1), 16);
        Due.due("and no less than 0", x.ofSpoon(0, 2), 0);
        x = new SpoonsLast();
        x.spoon(0, 5);
        x.wash(0, 0);
        x.change(0, 1, 8);
        Texts.read(x, 1, "0-9");
        Due.due("held to 0", x.hours(1), 1);
        Due.due("no silver more", x.ofSpoon(0, 2), 5);
        Due.due("but halved", x.ofSpoon(0, 5), 3);
        x = new SpoonsLast();
        x.spoon(0, 5);
        x.wash(0, 0);
        x.change(0, 1, 2);
        Texts.read(x, 1, "19");
        Due.due("more than there is", x.hours(1), 1);
        Due.due("0 at least", x.ofSpoon(0, 2), 0);
    }

    private static void hoursEdges() {
        Due.topic("promise 17, edges");
        SpoonsLast x = new SpoonsLast();
        x.known(77);
        Due.due("hours(0)", x.hours(0), Due.BEYOND);
        Due.due("hours(61)", x.hours(61), Due.BEYOND);
        Due.due("hours(-1)", x.hours(-1), Due.BEYOND);
        for (int far : FAR) {
            Due.due("hours(" + far + ")", x.hours(far), Due.BEYOND);
        }
        Due.due("count(1)", x.count(1), 0);
        Due.due("hours(1)", x.hours(1), 77);
        Due.due("hours(60)", x.hours(60), 77);
        Due.due("count(1)", x.count(1), 61);
        for (int i = 0; i < 164; i++) {
            x.hours(60);
        }
        Due.due("count(1)", x.count(1), 9901);
        x.hours(39);
        Due.due("count(1)", x.count(1), 9940);
        Due.due("hours(60)", x.hours(60), Due.STATE);
        Due.due("hours(61)", x.hours(61), Due.BEYOND);
        Due.due("count(1)", x.count(1), 9940);
        Due.due("hours(59)", x.hours(59), 77);
        Due.due("count(1)", x.count(1), 9999);
        Due.due("hours(1)", x.hours(1), Due.STATE);
        Due.due("loose(1)", x.loose(1), Due.STATE);
        Due.due("hours(0)", x.hours(0), Due.BEYOND);
        Due.due("loose(0)", x.loose(0), Due.BEYOND);
        Due.due("count(1)", x.count(1), 9999);
        Due.due("count(10)", x.count(10), 1);
        Due.due("told(3)", x.told(3), 3);
        Due.due("told(1)", x.told(1), 10);
        beyondTheLast(x);
    }

    /** At HOUR 9999: the next SWALLOWS are at places 3, 4, .., the next WASHES at 3, 0, .. */
    private static void beyondTheLast(SpoonsLast x) {
        Due.topic("promise 19, beyond HOUR 9999");
        x.known(0);
        x.spoon(30, 50);
        x.word(7, 9);
        x.swallow(4, 0, 7);
        x.wash(0, 0);
        Due.due("spreads(1)", x.spreads(1), 0);
        Due.due("spreads(2)", x.spreads(2), 1);
        Due.due("when(7)", x.when(7), 2);
        Due.due("then(60, 0, 0)", x.then(60, 0, 0), 5);
        Due.due("then(1, 0, 0)", x.then(1, 0, 0), 50);
        Due.due("then(2, 0, 0)", x.then(2, 0, 0), 47);
        Due.due("then(2, 0, 1)", x.then(2, 0, 1), 128);
        Due.due("count(1)", x.count(1), 9999);
        Due.due("odds(30, 7, 1)", x.odds(30, 7, 1), 1);
    }

    private static void loose() {
        Due.topic("promise 18");
        SpoonsLast x = new SpoonsLast();
        long z = 1;
        for (int h = 0; h < 60; h++) {
            Due.due("loose(1)", x.loose(1), 0);
            z = (z * 1103515245L + 12345L) & 0xFFFFFFFFL;
            long spoon = (z >> 8) % 8;
            z = (z * 1103515245L + 12345L) & 0xFFFFFFFFL;
            long word = (z >> 8) % 12;
            Due.due("hour " + h, x.ofSwallow(h % 6), 12 * (spoon + 1) + word);
            Due.due("count(10)", x.count(10), (int) z);
            Due.due("count(1)", x.count(1), h + 1);
        }
        SpoonsLast one = rich();
        SpoonsLast many = rich();
        for (int i = 0; i < 40; i++) {
            one.loose(1);
        }
        Due.due("loose(40)", many.loose(40), one.count(3));
        for (int what = 0; what <= 10; what++) {
            Due.due("count(" + what + ")", many.count(what), one.count(what));
        }
        Due.due("count(1)", many.count(1), 40);
        drawnIsSwallowed();
    }

    private static SpoonsLast rich() {
        SpoonsLast x = new SpoonsLast();
        for (int s = 0; s < 8; s++) {
            x.spoon(11 * s % 70, 20 + s);
            x.wash(s % 4, s);
        }
        x.seed(-12345678);
        return x;
    }

    /** z 1 draws SPOON 6 first, and that swallows ahead of the HOUR's WASH. */
    private static void drawnIsSwallowed() {
        SpoonsLast x = new SpoonsLast();
        for (int s = 0; s < 8; s++) {
            x.spoon(40, 50);
        }
        x.wash(0, 6);
        int known = x.loose(1);
        Due.due("ofSwallow(0) / 12", x.ofSwallow(0) / 12, 7);
        Due.due("loose(1)", known, 1 << x.ofSwallow(0) % 12);
        Due.due("ofSpoon(6, 2)", x.ofSpoon(6, 2), 48);
        Due.due("ofSwallow(1)", x.ofSwallow(1), 0);
    }

    private static void looseEdges() {
        SpoonsLast x = new SpoonsLast();
        Due.due("loose(0)", x.loose(0), Due.BEYOND);
        Due.due("loose(41)", x.loose(41), Due.BEYOND);
        for (int far : FAR) {
            Due.due("loose(" + far + ")", x.loose(far), Due.BEYOND);
        }
        Due.due("count(1)", x.count(1), 0);
        Due.due("count(10)", x.count(10), 1);
        Due.due("ofSwallow(0)", x.ofSwallow(0), 0);
        Due.due("loose(40)", x.loose(40), 0);
        Due.due("count(1)", x.count(1), 40);
        for (int i = 0; i < 165; i++) {
            x.hours(60);
        }
        x.hours(30);
        Due.due("count(1)", x.count(1), 9970);
        int z = x.count(10);
        int swallow = x.ofSwallow(4);
        Due.due("loose(30)", x.loose(30), Due.STATE);
        Due.due("loose(41)", x.loose(41), Due.BEYOND);
        Due.due("count(10)", x.count(10), z);
        Due.due("ofSwallow(4)", x.ofSwallow(4), swallow);
        Due.due("loose(29)", x.loose(29), 0);
        Due.due("count(1)", x.count(1), 9999);
        Due.due("told(3)", x.told(3), 1);
        Due.due("told(1)", x.told(1), 7);
    }
}
