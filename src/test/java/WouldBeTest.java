/** Promises 19 to 32: what would be. */
public final class WouldBeTest {
    private static final int[] FAR = {Integer.MIN_VALUE, -1000, 1000000, Integer.MAX_VALUE};

    private WouldBeTest() {
    }

    public static void main(String[] args) {
        then();
        spreads();
        when();
        lasts();
        silverFor();
        silverForTexts();
        washFor();
        kindFor();
        rubbed();
        rubbedEdges();
        which();
        washers();
        telling();
        gossip();
        much();
        odds();
        oddsPlaces();
        oddsEdges();
        onlyThought();
        Due.end();
    }

    /** One SPOON; HOUR 1 is the first of SWALLOW 1 (WORD 5) and of WASH 1 as well. */
    private static SpoonsLast atOne(int km, int silver) {
        SpoonsLast x = new SpoonsLast();
        x.spoon(km, silver);
        x.swallow(1, 0, 5);
        x.wash(1, 0);
        return x;
    }

    private static void then() {
        Due.topic("promise 19");
        SpoonsLast x = atOne(30, 99);
        x.spoon(0, 9);
        x.change(1, 1, 2);
        x.change(0, 12, 1);
        int[][] due = {{0, 99, 2048}, {1, 99, 0}, {2, 96, 32}, {3, 96, 0}, {5, 96, 0}, {6, 93, 0},
            {8, 93, 32}, {9, 93, 32}, {10, 90, 0}, {60, 99 - 45, 0}};
        for (int[] d : due) {
            Due.due("then(" + d[0] + ", 0, 0)", x.then(d[0], 0, 0), d[1]);
            Due.due("then(" + d[0] + ", 0, 1)", x.then(d[0], 0, 1), d[2]);
        }
        Due.due("then(0, 1, 1)", x.then(0, 1, 1), 1);
        Due.due("then(1, 1, 1)", x.then(1, 1, 1), 1);
        Due.due("then(2, 1, 1)", x.then(2, 1, 1), 0);
        Due.due("then(60, 1, 0)", x.then(60, 1, 0), 9);
        int[][] wrong = {{-1, 0, 0}, {61, 0, 0}, {0, -1, 0}, {0, 2, 0}, {0, 0, -1}, {0, 0, 2}};
        for (int[] a : wrong) {
            String call = "then(" + a[0] + ", " + a[1] + ", " + a[2] + ")";
            Due.due(call, x.then(a[0], a[1], a[2]), Due.BEYOND);
        }
        for (int far : FAR) {
            Due.due("then(" + far + ", 0, 0)", x.then(far, 0, 0), Due.BEYOND);
            Due.due("then(0, " + far + ", 0)", x.then(0, far, 0), Due.BEYOND);
            Due.due("then(0, 0, " + far + ")", x.then(0, 0, far), Due.BEYOND);
        }
        Due.due("told(1)", x.told(1), 18);
    }

    private static void spreads() {
        Due.topic("promise 20");
        SpoonsLast x = atOne(0, 99);
        x.swallow(3, 0, 6);
        x.wash(3, 0);
        x.known(1);
        Due.due("spreads(0)", x.spreads(0), 1);
        Due.due("spreads(1)", x.spreads(1), 1);
        Due.due("spreads(2)", x.spreads(2), 2);
        Due.due("spreads(3)", x.spreads(3), 2);
        Due.due("spreads(4)", x.spreads(4), 3);
        Due.due("spreads(60)", x.spreads(60), 3);
        Due.due("spreads(-1)", x.spreads(-1), Due.BEYOND);
        Due.due("spreads(61)", x.spreads(61), Due.BEYOND);
        for (int far : FAR) {
            Due.due("spreads(" + far + ")", x.spreads(far), Due.BEYOND);
        }
        x.known(4095);
        Due.due("spreads(0)", x.spreads(0), 12);
        Due.due("spreads(60)", x.spreads(60), 12);
        x.known(0);
        x.hours(1);
        Due.due("spreads(1)", x.spreads(1), 1);
        Due.due("told(1)", x.told(1), 6);
    }

    private static void when() {
        Due.topic("promise 21");
        SpoonsLast x = atOne(0, 99);
        x.known(1 << 11);
        Due.due("when(5)", x.when(5), 2);
        Due.due("when(11)", x.when(11), 0);
        Due.due("when(0)", x.when(0), Due.NONE);
        Due.due("when(-1)", x.when(-1), Due.BEYOND);
        Due.due("when(12)", x.when(12), Due.BEYOND);
        for (int far : FAR) {
            Due.due("when(" + far + ")", x.when(far), Due.BEYOND);
        }
        // An APOSTLE that no one can read is THROUGH by its 15th WASH in HOUR 59, by its 14th in
        // HOUR 55, where WORD 3 is ON it yet, by its 13th in HOUR 51, where it isn't.
        SpoonsLast y = new SpoonsLast();
        y.spoon(20, 15);
        y.swallow(5, 0, 3);
        y.wash(3, 0);
        Due.due("when(3)", y.when(3), 60);
        y.change(0, 0, 14);
        Due.due("when(3)", y.when(3), 56);
        y.change(0, 0, 13);
        Due.due("when(3)", y.when(3), Due.NONE);
        y.change(0, 0, 12);
        Due.due("when(3)", y.when(3), 48);
        y.change(0, 0, 16);
        Due.due("when(3)", y.when(3), Due.NONE);
        y.change(0, 0, 18);
        Due.due("when(3)", y.when(3), Due.NONE);
        Due.due("told(2)", y.told(2), 3);
        Due.due("told(1)", x.told(1), 6);
        Due.due("told(2)", x.told(2), 1);
    }

    private static void lasts() {
        Due.topic("promise 22");
        SpoonsLast x = atOne(0, 3);
        x.spoon(0, 0);
        x.spoon(0, 1);
        Due.due("lasts(0)", x.lasts(0), 10);
        Due.due("lasts(1)", x.lasts(1), 0);
        Due.due("lasts(2)", x.lasts(2), Due.NONE);
        x.change(0, 0, 1);
        Due.due("lasts(0)", x.lasts(0), 2);
        x.change(0, 0, 15);
        Due.due("lasts(0)", x.lasts(0), 58);
        x.change(0, 0, 16);
        Due.due("lasts(0)", x.lasts(0), Due.NONE);
        x.wash(1, -1);
        x.wash(3, 0);
        x.change(0, 0, 15);
        Due.due("lasts(0)", x.lasts(0), 60);
        x.change(0, 0, 16);
        Due.due("lasts(0)", x.lasts(0), Due.NONE);
        x.hours(3);
        x.change(0, 0, 1);
        Due.due("lasts(0)", x.lasts(0), 1);
        Due.due("lasts(-1)", x.lasts(-1), Due.BEYOND);
        Due.due("lasts(3)", x.lasts(3), Due.BEYOND);
        for (int far : FAR) {
            Due.due("lasts(" + far + ")", x.lasts(far), Due.BEYOND);
        }
        Due.due("told(1)", x.told(1), 6);
        Due.due("told(2)", x.told(2), 3);
    }

    private static void silverFor() {
        Due.topic("promise 23");
        SpoonsLast x = atOne(0, 3);
        int[][] due = {{0, 1}, {1, 1}, {2, 2}, {5, 2}, {6, 3}, {57, 15}, {58, 16}, {60, 16}};
        for (int[] d : due) {
            Due.due("silverFor(0, " + d[0] + ")", x.silverFor(0, d[0]), d[1]);
        }
        Due.due("ofSpoon(0, 2)", x.ofSpoon(0, 2), 3);
        x.change(0, 0, 0);
        Due.due("of one THROUGH now", x.silverFor(0, 60), 16);
        for (int p = 0; p < 4; p++) {
            x.wash(p, 0);
        }
        x.swallow(1, -1, 0);
        Due.due("washed each hour", x.silverFor(0, 60), 61);
        x.become(0, 10);
        Due.due("a FIDDLE, 49 hours", x.silverFor(0, 49), 99);
        Due.due("a FIDDLE, 50 hours", x.silverFor(0, 50), Due.NONE);
        x.become(0, 30);
        Due.due("a SALT, 32 hours", x.silverFor(0, 32), 97);
        Due.due("a SALT, 33 hours", x.silverFor(0, 33), Due.NONE);
        x.become(0, 50);
        Due.due("a MAIDEN with nothing", x.silverFor(0, 60), 1);
        Due.due("silverFor(-1, 0)", x.silverFor(-1, 0), Due.BEYOND);
        Due.due("silverFor(1, 0)", x.silverFor(1, 0), Due.BEYOND);
        Due.due("silverFor(0, -1)", x.silverFor(0, -1), Due.BEYOND);
        Due.due("silverFor(0, 61)", x.silverFor(0, 61), Due.BEYOND);
        for (int far : FAR) {
            Due.due("silverFor(" + far + ", 0)", x.silverFor(far, 0), Due.BEYOND);
            Due.due("silverFor(0, " + far + ")", x.silverFor(0, far), Due.BEYOND);
        }
        Due.due("told(1)", x.told(1), 12);
        Due.due("told(2)", x.told(2), 2);
    }

    /** More SILVER is not always better. */
    private static void silverForTexts() {
        SpoonsLast x = new SpoonsLast();
        x.spoon(0, 9);
        x.wash(0, 0);
        Texts.read(x, 1, "s<3");
        Due.due("s<3", x.silverFor(0, 9), 3);
        Texts.read(x, 1, "s*(s>4)");
        Due.due("s*(s>4)", x.silverFor(0, 9), 1);
        Texts.read(x, 1, "20*(s<2|s>3)");
        Due.due("20*(s<2|s>3)", x.silverFor(0, 9), 2);
        Texts.read(x, 1, "20*(s<99)");
        Due.due("20*(s<99)", x.silverFor(0, 60), 99);
        Texts.read(x, 1, "20");
        Due.due("20 five times", x.silverFor(0, 17), Due.NONE);
        Due.due("20 four times", x.silverFor(0, 16), 81);
    }

    private static void washFor() {
        Due.topic("promise 24");
        // Made THROUGH in HOUR 0, spoon 0 can't swallow in HOUR 1 what WASH 1 would tell.
        SpoonsLast x = atOne(0, 1);
        Due.due("washFor(0, 0)", x.washFor(0, 0), 0);
        Due.due("washFor(0, 1)", x.washFor(0, 1), 0);
        Due.due("washFor(0, 2)", x.washFor(0, 2), 1);
        Due.due("washFor(0, 60)", x.washFor(0, 60), 1);
        Due.due("washFor(1, 60)", x.washFor(1, 60), 0);
        Due.due("washFor(2, 60)", x.washFor(2, 60), 0);
        Due.due("ofWash(0)", x.ofWash(0), 0);
        Due.due("ofWash(1)", x.ofWash(1), 1);
        // The same for spoon 7 alone.
        SpoonsLast y = new SpoonsLast();
        for (int s = 0; s < 8; s++) {
            y.spoon(0, 1);
        }
        y.swallow(1, 7, 5);
        y.wash(1, 7);
        y.wash(0, 3);
        Due.due("washFor(0, 2)", y.washFor(0, 2), 8);
        y.swallow(1, 6, 5);
        y.wash(1, 6);
        Due.due("washFor(0, 60)", y.washFor(0, 60), 7);
        Due.due("washFor(-1, 0)", y.washFor(-1, 0), Due.BEYOND);
        Due.due("washFor(4, 0)", y.washFor(4, 0), Due.BEYOND);
        Due.due("washFor(0, -1)", y.washFor(0, -1), Due.BEYOND);
        Due.due("washFor(0, 61)", y.washFor(0, 61), Due.BEYOND);
        for (int far : FAR) {
            Due.due("washFor(" + far + ", 0)", y.washFor(far, 0), Due.BEYOND);
            Due.due("washFor(0, " + far + ")", y.washFor(0, far), Due.BEYOND);
        }
        Due.due("told(1)", y.told(1), 12);
        Due.due("washFor(3, 0) of an empty house", new SpoonsLast().washFor(3, 0), 0);
    }

    private static void kindFor() {
        Due.topic("promise 25");
        SpoonsLast x = atOne(0, 50);
        Due.due("kindFor(0, 0)", x.kindFor(0, 0), 0);
        Due.due("kindFor(0, 1)", x.kindFor(0, 1), 0);
        Due.due("kindFor(0, 2)", x.kindFor(0, 2), 2);
        Due.due("kindFor(0, 60)", x.kindFor(0, 60), 2);
        x.word(5, 2);
        Due.due("kindFor(0, 2)", x.kindFor(0, 2), 2);
        x.change(0, 6, 9);
        Due.due("kindFor(0, 2)", x.kindFor(0, 2), 6);
        x.change(0, 6, 6);
        Due.due("kindFor(0, 2)", x.kindFor(0, 2), 6);
        x.change(0, 6, 4);
        Due.due("kindFor(0, 2)", x.kindFor(0, 2), 2);
        Due.due("ofSpoon(0, 0)", x.ofSpoon(0, 0), 0);
        // m as it is: a SERVER of m above 4 reads all; FIDDLE and SERVER m 4 do not read 1.
        SpoonsLast y = new SpoonsLast();
        y.spoon(45, 50);
        y.wash(0, 0);
        y.change(0, 1, 1);
        Due.due("kindFor(0, 1)", y.kindFor(0, 1), 0);
        // As a SALT it is THROUGH, which tells; as a FIDDLE it isn't.
        y.change(0, 0, 2);
        y.change(0, 2, 3);
        Due.due("kindFor(0, 1)", y.kindFor(0, 1), 2);
        y.change(0, 2, 2);
        Due.due("kindFor(0, 1)", y.kindFor(0, 1), 0);
        Due.due("kindFor(-1, 0)", x.kindFor(-1, 0), Due.BEYOND);
        Due.due("kindFor(1, 0)", x.kindFor(1, 0), Due.BEYOND);
        Due.due("kindFor(0, -1)", x.kindFor(0, -1), Due.BEYOND);
        Due.due("kindFor(0, 61)", x.kindFor(0, 61), Due.BEYOND);
        for (int far : FAR) {
            Due.due("kindFor(" + far + ", 0)", x.kindFor(far, 0), Due.BEYOND);
            Due.due("kindFor(0, " + far + ")", x.kindFor(0, far), Due.BEYOND);
        }
        Due.due("told(1)", x.told(1), 12);
    }

    private static void sheet(SpoonsLast x, int sheet, int... numbers) {
        x.sheet(sheet, 8, numbers.length);
        for (int i = 0; i < numbers.length; i++) {
            x.put(sheet, i, numbers[i]);
        }
    }

    /** An APOSTLE, which is not read: WORD 5 is known by 2, 10, 14 if it has 1, 3, 4 SILVER. */
    private static void rubbed() {
        Due.topic("promise 26");
        SpoonsLast x = atOne(20, 50);
        int[][] sheets = {{}, {0}, {1}, {0, 1}, {0, 0}, {0, 1, 1, 1}, {0, 1, 1, 2},
            {0, 0, 0, 0, 0, 0, 0, 0, 0, 0, 0, 0, 0, 1}, {0, 0, 0, 0, 0, 0, 0, 0, 0, 0, 0, 0, 0, 0}};
        // How many, the least.
        int[][] due = {{100, 0}, {100, 0}, {0, Due.NONE}, {1, 1}, {99, 0}, {1, 1}, {0, Due.NONE},
            {1, 4}, {97, 0}};
        for (int i = 0; i < sheets.length; i++) {
            sheet(x, 2, sheets[i]);
            Due.due("rubbed(2, 0, 0) of sheet " + i, x.rubbed(2, 0, 0), due[i][0]);
            Due.due("rubbed(2, 0, 1) of sheet " + i, x.rubbed(2, 0, 1), due[i][1]);
        }
        Due.due("ofSpoon(0, 2)", x.ofSpoon(0, 2), 50);
        x.become(0, 30);
        x.word(5, 2);
        sheet(x, 0, 0, 1);
        Due.due("a SALT", x.rubbed(0, 0, 0), 3);
        Due.due("a SALT", x.rubbed(0, 0, 1), 1);
        sheet(x, 0, 0, 0);
        Due.due("a SALT", x.rubbed(0, 0, 0), 97);
        x.known(4);
        Due.due("with one that is KNOWN", x.rubbed(0, 0, 0), 0);
        sheet(x, 3, 1, 2);
        Due.due("with one that is KNOWN", x.rubbed(3, 0, 0), 3);
        Texts.read(x, 1, "(s>97)*20+(s<98)");
        Due.due("by a TEXT", x.rubbed(3, 0, 0), 1);
        x.change(0, 1, 3);
        sheet(x, 3, 1, 1);
        Due.due("by a TEXT", x.rubbed(3, 0, 0), 99);
        Due.due("by a TEXT", x.rubbed(3, 0, 1), 0);
        // To the greatest SILVER: a WORD is FRESH by 4 of it only.
        Texts.read(x, 0, "9*(s=99)");
        x.change(0, 1, 0);
        x.known(0);
        sheet(x, 3, 0, 1);
        Due.due("99 alone", x.rubbed(3, 0, 0), 1);
        Due.due("99 alone", x.rubbed(3, 0, 1), 99);
    }

    private static void rubbedEdges() {
        SpoonsLast x = atOne(20, 50);
        Due.due("a missing one", x.rubbed(0, 0, 0), Due.NONE);
        Due.due("a missing one", x.rubbed(3, 0, 1), Due.NONE);
        int[][] wrong = {{-1, 0, 0}, {4, 0, 0}, {0, -1, 0}, {0, 1, 0}, {0, 0, -1}, {0, 0, 2}};
        for (int[] a : wrong) {
            String call = "rubbed(" + a[0] + ", " + a[1] + ", " + a[2] + ")";
            Due.due(call, x.rubbed(a[0], a[1], a[2]), Due.BEYOND);
        }
        for (int far : FAR) {
            Due.due("rubbed(" + far + ", 0, 0)", x.rubbed(far, 0, 0), Due.BEYOND);
            Due.due("rubbed(0, " + far + ", 0)", x.rubbed(0, far, 0), Due.BEYOND);
            Due.due("rubbed(0, 0, " + far + ")", x.rubbed(0, 0, far), Due.BEYOND);
        }
        Due.due("told(1)", x.told(1), 18);
        Due.due("told(2)", x.told(2), 2);
        // 40 numbers, the last of which is wrong.
        // (WASHES 1, 3, 4, 6, 7, 9, 10 of those to HOUR 37 find WORD 5 ON it.)
        x.sheet(1, 32, 40);
        Due.due("40 numbers", x.rubbed(1, 0, 0), 93);
        x.put(1, 39, 1);
        Due.due("40 numbers", x.rubbed(1, 0, 0), 0);
        Due.due("40 numbers", x.rubbed(1, 0, 1), Due.NONE);
        x.sheet(1, 0, 0);
        Due.due("missing again", x.rubbed(1, 0, 0), Due.NONE);
    }

    private static void which() {
        Due.topic("promise 27");
        SpoonsLast x = atOne(0, 50);
        Due.due("a missing one", x.which(1, 0), Due.NONE);
        sheet(x, 1);
        Due.due("an empty one", x.which(1, 0), 127);
        sheet(x, 1, 0, 1);
        Due.due("SPOON, FIDDLE, SALT, SERVER", x.which(1, 0), 1 + 2 + 8 + 16);
        x.become(0, 26);
        Due.due("and a MAIDEN of m 6", x.which(1, 0), 1 + 2 + 8 + 16 + 32);
        x.change(0, 0, 7);
        Due.due("and a CADDY of 7", x.which(1, 0), 1 + 2 + 8 + 16 + 32 + 64);
        x.change(0, 0, 10);
        sheet(x, 1, 0, 0);
        Due.due("APOSTLE, CADDY", x.which(1, 0), 4 + 64);
        sheet(x, 1, 1);
        Due.due("none", x.which(1, 0), 0);
        sheet(x, 1, 0, 0, 0, 0, 0, 0, 0, 0, 0, 0, 0, 0, 0, 1);
        Due.due("none by 14 first", x.which(1, 0), 0);
        x.change(0, 0, 4);
        Due.due("an APOSTLE of 4", x.which(1, 0), 4);
        Due.due("ofSpoon(0, 0)", x.ofSpoon(0, 0), 2);
        Due.due("which(-1, 0)", x.which(-1, 0), Due.BEYOND);
        Due.due("which(4, 0)", x.which(4, 0), Due.BEYOND);
        Due.due("which(0, -1)", x.which(0, -1), Due.BEYOND);
        Due.due("which(0, 1)", x.which(0, 1), Due.BEYOND);
        Due.due("which(0, 0)", x.which(0, 0), Due.NONE);
        for (int far : FAR) {
            Due.due("which(" + far + ", 0)", x.which(far, 0), Due.BEYOND);
            Due.due("which(0, " + far + ")", x.which(0, far), Due.BEYOND);
        }
        Due.due("told(1)", x.told(1), 12);
        Due.due("told(2)", x.told(2), 2);
    }

    /** A house of SPOONS of which each pair told has a WORD of its own. */
    private static SpoonsLast clashing(int spoons, int... pairs) {
        SpoonsLast x = new SpoonsLast();
        for (int s = 0; s < spoons; s++) {
            x.spoon(10 * (s % 7), s % 3);
        }
        for (int i = 0; i < pairs.length; i++) {
            x.change(pairs[i] / 10, i + 1, 1 + i % 9);
            x.change(pairs[i] % 10, i + 1, 9 - i % 9);
        }
        return x;
    }

    private static void washers() {
        Due.topic("promise 28");
        Due.due("none", clashing(0).washers(), 0);
        for (int n = 1; n <= 8; n++) {
            Due.due(n + " without a clash", clashing(n).washers(), 1);
            SpoonsLast x = clashing(n);
            for (int s = 0; s < n; s++) {
                x.change(s, 12, 1);
            }
            Due.due(n + " that all clash", x.washers(), n);
            x.change(0, 12, 0);
            Due.due("one of them less", x.washers(), Math.max(1, n - 1));
        }
        Due.due("a pair", clashing(2, 1).washers(), 2);
        Due.due("a path", clashing(4, 1, 12, 23).washers(), 2);
        Due.due("a path, crosswise", clashing(4, 2, 23, 31).washers(), 2);
        Due.due("a triangle", clashing(8, 1, 12, 20).washers(), 3);
        Due.due("a ring of 5", clashing(5, 1, 12, 23, 34, 40).washers(), 3);
        Due.due("a ring of 6", clashing(6, 1, 12, 23, 34, 45, 50).washers(), 2);
        Due.due("a ring of 7", clashing(7, 1, 12, 23, 34, 45, 56, 60).washers(), 3);
        Due.due("a wheel of 5", clashing(6, 1, 12, 23, 34, 40, 5, 15, 25, 35, 45).washers(), 4);
        Due.due("a crown", clashing(8, 3, 5, 7, 21, 25, 27, 41, 43, 47, 61, 63, 65).washers(), 2);
        Due.due("two triangles", clashing(8, 24, 47, 72, 35, 56, 63).washers(), 3);
        Due.due("four of one word", fourOfOneWord().washers(), 4);
    }

    private static SpoonsLast fourOfOneWord() {
        SpoonsLast x = clashing(8, 1, 12, 20);
        for (int s = 4; s < 8; s++) {
            x.change(s, 12, s - 3);
        }
        return x;
    }

    private static void on(SpoonsLast x, int km, int words) {
        int s = x.spoon(km, 5);
        for (int w = 0; w < 12; w++) {
            if ((words >> w & 1) == 1) {
                x.change(s, w + 1, 1 + w % 9);
            }
        }
    }

    private static void telling() {
        Due.topic("promise 29");
        SpoonsLast x = new SpoonsLast();
        Due.due("telling(0)", x.telling(0), 0);
        Due.due("telling(1)", x.telling(1), Due.NONE);
        on(x, 0, 1);
        on(x, 10, 2);
        Due.due("telling(3)", x.telling(3), 3);
        Due.due("telling(2)", x.telling(2), 2);
        Due.due("telling(4)", x.telling(4), Due.NONE);
        Due.due("telling(7)", x.telling(7), Due.NONE);
        on(x, 20, 3);
        on(x, 30, 3);
        Due.due("telling(3)", x.telling(3), 4);
        Due.due("telling(1)", x.telling(1), 1);
        Due.due("telling(0)", x.telling(0), 0);
        Due.due("telling(-1)", x.telling(-1), Due.BEYOND);
        Due.due("telling(4096)", x.telling(4096), Due.BEYOND);
        for (int far : FAR) {
            Due.due("telling(" + far + ")", x.telling(far), Due.BEYOND);
        }
        Due.due("told(1)", x.told(1), 6);
        Due.due("told(2)", x.told(2), 3);
        // The one with most of them is not among the fewest.
        SpoonsLast y = new SpoonsLast();
        on(y, 0, 0b001111);
        on(y, 0, 0b010011);
        on(y, 0, 0b101100);
        Due.due("telling(63)", y.telling(63), 6);
        Due.due("telling(15)", y.telling(15), 1);
        Due.due("telling(48)", y.telling(48), 6);
        // Of several the least: {0, 7} is a greater set than {3, 5}, {4, 5}, {3, 4} than {2, 5}.
        SpoonsLast z = new SpoonsLast();
        int[] words = {3, 0, 1, 1, 2, 6, 0, 12};
        for (int w : words) {
            on(z, 60, w);
        }
        Due.due("telling(7)", z.telling(7), 1 + 32);
        Due.due("telling(5)", z.telling(5), 1 + 32);
        Due.due("telling(12)", z.telling(12), 128);
        Due.due("telling(15)", z.telling(15), 1 + 128);
        z.change(0, 2, 0);
        Due.due("telling(7)", z.telling(7), 1 + 32);
        z.change(0, 1, 0);
        Due.due("telling(7)", z.telling(7), 4 + 32);
        SpoonsLast all = new SpoonsLast();
        for (int s = 0; s < 8; s++) {
            on(all, 0, s < 4 ? 1 << s | 256 << s : 1 << s);
        }
        Due.due("telling(4095)", all.telling(4095), 255);
        Due.due("telling(3840)", all.telling(3840), 15);
    }

    private static void gossip() {
        Due.topic("promise 30");
        SpoonsLast x = atOne(0, 99);
        x.known(1 << 11 | 1 << 10 | 1 << 9);
        Due.due("gossip(0)", x.gossip(0), 10);
        Due.due("gossip(1)", x.gossip(1), 10);
        Due.due("gossip(2)", x.gossip(2), 15);
        x.word(5, 9);
        x.word(10, 3);
        Due.due("gossip(2)", x.gossip(2), 22);
        Due.due("gossip(60)", x.gossip(60), 22);
        Due.due("gossip(-1)", x.gossip(-1), Due.BEYOND);
        Due.due("gossip(61)", x.gossip(61), Due.BEYOND);
        for (int far : FAR) {
            Due.due("gossip(" + far + ")", x.gossip(far), Due.BEYOND);
        }
        Due.due("told(1)", x.told(1), 6);
        x.known(4095);
        Due.due("gossip(0)", x.gossip(0), 46 + 4 + 3);
        x.known(0);
        Due.due("gossip(0)", x.gossip(0), 0);
        Due.due("gossip(2)", x.gossip(2), 9);
    }

    private static void much() {
        Due.topic("promise 31");
        SpoonsLast x = atOne(30, 9);
        x.wash(0, 0);
        Due.due("much(0)", x.much(0), 0);
        for (int f = 1; f <= 9; f++) {
            x.change(0, f + 3, f);
            Due.due("much(0)", x.much(0), f);
        }
        x.change(0, 12, 0);
        Due.due("much(0)", x.much(0), 8);
        x.spoon(0, 0);
        x.change(1, 1, 4);
        Due.due("much of one THROUGH", x.much(1), 4);
        Due.due("much(-1)", x.much(-1), Due.BEYOND);
        Due.due("much(2)", x.much(2), Due.BEYOND);
        for (int far : FAR) {
            Due.due("much(" + far + ")", x.much(far), Due.BEYOND);
        }
        Due.due("told(1)", x.told(1), 6);
        Due.due("ofSpoon(0, 2)", x.ofSpoon(0, 2), 9);
    }

    private static void odds(SpoonsLast x, int n, int word, int above, int below) {
        Due.due("odds(" + n + ", " + word + ", 0)", x.odds(n, word, 0), above);
        Due.due("odds(" + n + ", " + word + ", 1)", x.odds(n, word, 1), below);
    }

    private static void odds() {
        Due.topic("promise 32");
        // A WORD that stays less than 3 hours can't be READ.
        SpoonsLast x = new SpoonsLast();
        x.spoon(30, 99);
        x.swallow(0, 0, 8);
        x.wash(0, 0);
        odds(x, 0, 8, 0, 1);
        odds(x, 1, 8, 1, 12);
        odds(x, 1, 3, 1, 12);
        odds(x, 1, 2, 0, 1);
        odds(x, 1, 11, 0, 1);
        x.word(11, 3);
        odds(x, 1, 11, 1, 12);
        odds(x, 30, 11, 1, 12);
        x.known(2048);
        odds(x, 0, 11, 1, 1);
        odds(x, 30, 11, 1, 1);
        // WORD 11, which can't be READ, is known if any other is swallowed: by two ON it it wears.
        String[] fresh = {"0", "w>8", "w>7", "w>6", "w>5", "w>4", "w>3", "w>2", "w>1", "w>0", "!(w=5)", "1"};
        int[][] due = {{0, 1}, {1, 12}, {1, 6}, {1, 4}, {1, 3}, {5, 12}, {1, 2}, {7, 12}, {2, 3},
            {3, 4}, {5, 6}, {11, 12}};
        for (int i = 0; i < fresh.length; i++) {
            SpoonsLast y = new SpoonsLast();
            y.spoon(20, 1);
            y.change(0, 12, 2);
            y.swallow(0, 0, 8);
            y.wash(0, 0);
            Texts.read(y, 0, fresh[i]);
            Texts.read(y, 1, "n>1");
            odds(y, 1, 11, due[i][0], due[i][1]);
        }
    }

    private static void oddsPlaces() {
        // The SWALLOW of this HOUR comes again at HOUR 6, with the same WORD.
        SpoonsLast x = new SpoonsLast();
        x.spoon(0, 99);
        x.swallow(0, 0, 5);
        x.wash(2, 0);
        odds(x, 6, 5, 0, 1);
        odds(x, 7, 5, 1, 12);
        odds(x, 7, 9, 1, 12);
        x.swallow(1, 0, 7);
        x.wash(1, 0);
        odds(x, 2, 7, 1, 1);
        odds(x, 1, 7, 0, 1);
        x.hours(1);
        odds(x, 1, 7, 1, 12);
        odds(x, 1, 4, 1, 12);
        odds(x, 6, 5, 1, 1);
        Due.due("ofSwallow(0)", x.ofSwallow(0), 17);
        Due.due("ofSwallow(1)", x.ofSwallow(1), 19);
        // Without a SPOON there the WORD is all the same.
        x.swallow(1, -1, 7);
        odds(x, 1, 7, 0, 1);
    }

    private static void oddsEdges() {
        SpoonsLast x = atOne(0, 99);
        int[][] wrong = {{-1, 0, 0}, {31, 0, 0}, {0, -1, 0}, {0, 12, 0}, {0, 0, -1}, {0, 0, 2}};
        for (int[] a : wrong) {
            String call = "odds(" + a[0] + ", " + a[1] + ", " + a[2] + ")";
            Due.due(call, x.odds(a[0], a[1], a[2]), Due.BEYOND);
        }
        for (int far : FAR) {
            Due.due("odds(" + far + ", 0, 0)", x.odds(far, 0, 0), Due.BEYOND);
            Due.due("odds(0, " + far + ", 0)", x.odds(0, far, 0), Due.BEYOND);
            Due.due("odds(0, 0, " + far + ")", x.odds(0, 0, far), Due.BEYOND);
        }
        Due.due("told(1)", x.told(1), 18);
        odds(x, 30, 11, 0, 1);
    }

    /** Whatever is asked, nothing is changed by it. */
    private static void onlyThought() {
        Due.topic("promises 19 to 32, only thought");
        SpoonsLast x = new SpoonsLast();
        for (int s = 0; s < 8; s++) {
            x.spoon(10 * (s % 7) + s, 5 + s);
            x.swallow(s % 6, s, s + 2);
            x.wash(s % 4, s);
            x.change(s, s + 1, s + 1);
        }
        x.hours(3);
        sheet(x, 0, 0, 1, 2);
        long before = look(x);
        x.then(60, 3, 0);
        x.spreads(60);
        x.when(0);
        x.lasts(0);
        x.silverFor(2, 60);
        x.washFor(2, 60);
        x.kindFor(2, 60);
        x.rubbed(0, 2, 0);
        x.rubbed(0, 2, 1);
        x.which(0, 2);
        x.washers();
        x.telling(3);
        x.gossip(60);
        x.much(4);
        x.odds(30, 2, 0);
        Due.due("all as it was", look(x), before);
        Due.due("count(1)", x.count(1), 3);
    }

    private static long look(SpoonsLast x) {
        long sum = 0;
        for (int s = 0; s < 8; s++) {
            for (int what = 0; what <= 16; what++) {
                sum = sum * 31 + x.ofSpoon(s, what);
            }
        }
        for (int p = 0; p < 6; p++) {
            sum = sum * 31 + x.ofSwallow(p);
        }
        for (int p = 0; p < 4; p++) {
            sum = sum * 31 + x.ofWash(p);
        }
        for (int what = 0; what <= 10; what++) {
            sum = sum * 31 + x.count(what);
        }
        return sum;
    }
}
