/** Promises 14 to 16: the tape, texts and their faults, what a use gives. */
public final class TextsTest {
    private static final int[] FAR = {Integer.MIN_VALUE, -1000, 1000000, Integer.MAX_VALUE};

    private TextsTest() {
    }

    public static void main(String[] args) {
        feed();
        feedOrder();
        text();
        faults();
        opens();
        longTexts();
        lawWithout();
        laws();
        lawHeld();
        lawEdges();
        Due.end();
    }

    private static void feed() {
        Due.topic("promise 14");
        SpoonsLast x = new SpoonsLast();
        Due.due("feed(0, 0)", x.feed(0, 0), Due.BEYOND);
        Due.due("feed(0, 9)", x.feed(0, 9), Due.BEYOND);
        Due.due("feed(0, -1)", x.feed(0, -1), Due.BEYOND);
        for (int far : FAR) {
            Due.due("feed(0, " + far + ")", x.feed(0, far), Due.BEYOND);
        }
        Due.due("count(7)", x.count(7), 0);
        int many = 0;
        for (int n = 1; n <= 8; n++) {
            many += n;
            Due.due("feed(-1, " + n + ")", x.feed(-1L, n), many);
        }
        Due.due("feed(0, 8)", x.feed(0, 8), 44);
        Due.due("feed(0, 7)", x.feed(0, 7), Due.FULL);
        Due.due("feed(0, 8)", x.feed(0, 8), Due.FULL);
        Due.due("count(7)", x.count(7), 44);
        Due.due("feed(0, 6)", x.feed(0, 6), 50);
        Due.due("feed(0, 1)", x.feed(0, 1), Due.FULL);
        Due.due("feed(0, 9)", x.feed(0, 9), Due.BEYOND);
        Due.due("feed(0, 0)", x.feed(0, 0), Due.BEYOND);
        Due.due("count(7)", x.count(7), 50);
        Due.due("told(1)", x.told(1), 9);
        Due.due("told(4)", x.told(4), 3);
        Due.due("text(0)", x.text(0), -10);
        Due.due("feed(107, 1)", x.feed(107, 1), 1);
    }

    private static void feedOrder() {
        SpoonsLast x = new SpoonsLast();
        // "12345678" is an 8-byte word; only so many of its lowest bytes come to the tape.
        long digits = 0x3837363534333231L;
        Due.due("feed(digits, 4)", x.feed(digits, 4), 4);
        Due.due("text(0)", x.text(0), 1);
        Due.due("feed(1234%9)", x.feed(0x39253433_32310000L >>> 16, 6), 6);
        Due.due("text(1)", x.text(1), 1);
        Due.due("law(1, 0, 0, 0)", x.law(1, 0, 0, 0), 1);
        Due.due("feed of 8", x.feed(0x352d2d6b2d73772bL, 8), 8);
        Due.due("text(0) from a sign", x.text(0), -10);
        // k-3*2-1 in one word of 8 bytes, the highest byte above 127 left out by n.
        Due.due("feed of 7", x.feed(0xE9312d322a332d6bL, 7), 7);
        Due.due("text(0)", x.text(0), 1);
        Due.due("law(0, 15, 0, 0)", x.law(0, 15, 0, 0), 8);
        Due.due("feed of 8", x.feed(0xE9312d322a332d6bL, 8), 8);
        Due.due("text(0) with byte 233", x.text(0), -17);
        Due.due("feed of 2", x.feed(0xFFFFFF6BFFFFL >>> 16, 1), 1);
        Due.due("feed of 1", x.feed(0xFFFFFFFFFFFFFF2BL, 1), 2);
        Due.due("feed of 1", x.feed(0x37L, 1), 3);
        Due.due("text(0)", x.text(0), 1);
        Due.due("law(0, 1, 0, 0)", x.law(0, 1, 0, 0), 8);
    }

    private static void text() {
        Due.topic("promise 15");
        SpoonsLast x = new SpoonsLast();
        Due.due("text(0) of an empty tape", x.text(0), -10);
        Due.due("feed", Texts.feed(x, "k+2"), 3);
        Due.due("text(-1)", x.text(-1), Due.BEYOND);
        Due.due("text(2)", x.text(2), Due.BEYOND);
        for (int far : FAR) {
            Due.due("text(" + far + ")", x.text(far), Due.BEYOND);
        }
        Due.due("told(1)", x.told(1), 6);
        Due.due("count(7)", x.count(7), 3);
        Due.due("text(0)", x.text(0), 1);
        Due.due("count(7)", x.count(7), 0);
        Due.due("law(0, 3, 0, 0)", x.law(0, 3, 0, 0), 5);
        Due.due("law(1, 3, 0, 0)", x.law(1, 3, 0, 0), 3);
        Due.due("a fault", Texts.read(x, 0, "k+3+"), -14);
        Due.due("count(7)", x.count(7), 0);
        Due.due("law(0, 3, 0, 0)", x.law(0, 3, 0, 0), 5);
        Due.due("text(0) of an empty tape", x.text(0), -10);
        Due.due("law(0, 3, 0, 0)", x.law(0, 3, 0, 0), 5);
        Due.due("in its place", Texts.read(x, 0, "w"), 1);
        Due.due("law(0, 3, 7, 0)", x.law(0, 3, 7, 0), 7);
        Due.due("the other use", Texts.read(x, 1, "n"), 1);
        Due.due("law(0, 3, 7, 0)", x.law(0, 3, 7, 0), 7);
        Due.due("law(1, 3, 7, 19)", x.law(1, 3, 7, 19), 19);
        Due.due("a fault is no error", x.told(1) + x.told(2) + x.told(3) + x.told(4) + x.told(5), 6);
    }

    /** The FAULT of each tape for USE 0; -1: it is a TEXT. */
    private static void faults() {
        Due.topic("promise 15, FAULT");
        Object[][] rows = {
            {"k", -1}, {"w", -1}, {"s", -1}, {"r", 0}, {"n", 0}, {"K", 0}, {"0", -1}, {"0000", -1},
            {"9999", -1}, {"10000", 4}, {"00000", 4}, {"1234k", 4}, {"12k", 2}, {"k1", 1}, {"kk", 1},
            {"k w", 1}, {" k", 0}, {"k ", 1}, {"-1", 0}, {"+1", 0}, {"1-", 2}, {"1--1", 2},
            {"k+w-s*2/3%4", -1}, {"k<w", -1}, {"k=w", -1}, {"k>w", -1}, {"k<w<s", 3}, {"k=w>s", 3},
            {"k<w&s<1|k=2", -1}, {"(k<w)<s", -1}, {"k<(w<s)", -1}, {"k<(w<s<1)", 6}, {"k<=w", 2},
            {"k==w", 2}, {"k&&w", 2}, {"k||w", 2}, {"k|w|s", -1}, {"k&w&s", -1}, {"!k", -1},
            {"!!k", -1}, {"k!", 1}, {"k!w", 1}, {"!", 1}, {"!)", 1}, {"(k)", -1}, {"(k", 2},
            {"k)", 1}, {"()", 1}, {"(", 1}, {")", 0}, {"(k))", 3}, {"(k)(w)", 3}, {"2(k)", 1},
            {"k*(w+s)", -1}, {"k*(w+s", 6}, {"k*(w+)", 5}, {"(1|2&3<4+5*6)", -1}, {"k+!w", -1},
            {"k*!(w)", -1}, {"k$", 1}, {"$", 0}, {"k+r", 2}, {"k,w", 1}, {"k\n", 1}, {"\u0000", 0},
            {"\u00eb", 0}, {"(k<w|s)<1", -1}, {"1%2%3/4*5", -1}, {"1<2=3", 3},
            {"1<2+3<4", 5}, {"1<2&3<4<5", 7}, {"!1<!2", -1}, {"12345", 4}, {"1+12345", 6},
        };
        SpoonsLast x = new SpoonsLast();
        for (Object[] row : rows) {
            int fault = (Integer) row[1];
            Due.due("\"" + row[0] + "\"", Texts.read(x, 0, (String) row[0]), fault < 0 ? 1 : -10 - fault);
        }
        x = new SpoonsLast();
        Due.due("r for use 1", Texts.read(x, 1, "r"), 1);
        Due.due("s for use 1", Texts.read(x, 1, "s"), 1);
        Due.due("n for use 1", Texts.read(x, 1, "n"), 1);
        Due.due("k for use 1", Texts.read(x, 1, "k"), -10);
        Due.due("w for use 1", Texts.read(x, 1, "r+w"), -12);
        Due.due("a byte above 255", Texts.read(x, 1, "r"), 1);
    }

    private static void opens() {
        Due.topic("promise 15, open at once");
        Object[][] rows = {
            {"!!!!!k", -1}, {"!!!!!!k", 5}, {"(((((k)))))", -1}, {"((((((k))))))", 5},
            {"!(!(!k))", -1}, {"!(!(!(k)))", 5}, {"(!(!((k))))", 5}, {"(!(!(k)))", -1}, {"(((((!k)))))", 5},
            {"(((((k))))", 10}, {"(((((k)))))+!!!!!k", -1}, {"!!!!!k+!!!!!w*(((((s)))))", -1},
            {"(!!!!k+!!!!w)", -1}, {"(!!!!k+!!!!!w)", 11}, {"(!!!!k+(((((w)))))", 11},
            {"!!!!(k+w)", -1}, {"!!!!(k+!w)", 7}, {"!!!!(k)+!w", -1}, {"((((k+(w)))))", -1},
            {"((((k+(w)+(!s)))))", 11}, {"!!!!!!", 5}, {"!!!!!", 5}, {"(((((", 5}, {"((((((", 5},
        };
        SpoonsLast x = new SpoonsLast();
        for (Object[] row : rows) {
            int fault = (Integer) row[1];
            Due.due("\"" + row[0] + "\"", Texts.read(x, 0, (String) row[0]), fault < 0 ? 1 : -10 - fault);
        }
    }

    private static void longTexts() {
        Due.topic("promise 15, 50 bytes");
        SpoonsLast x = new SpoonsLast();
        StringBuilder sum = new StringBuilder("k");
        while (sum.length() < 49) {
            sum.append("+1");
        }
        Due.due("24 ones more", Texts.read(x, 0, sum.toString()), 1);
        Due.due("law(0, -20, 0, 0)", x.law(0, -20, 0, 0), 4);
        Due.due("49 and a sign", Texts.read(x, 0, sum + "+"), -60);
        Due.due("law(0, -20, 0, 0)", x.law(0, -20, 0, 0), 4);
        Due.due("49 and a digit", Texts.read(x, 0, sum + "5"), 1);
        Due.due("law(0, -30, 0, 0)", x.law(0, -30, 0, 0), 8);
        Due.due("50 signs", Texts.read(x, 0, "!!!!!" + "k".repeat(45)), -16);
        Due.due("50 digits", Texts.read(x, 0, "1".repeat(50)), -14);
        StringBuilder deep = new StringBuilder("1");
        while (deep.length() < 45) {
            deep.append("|1&");
            deep.append(deep.length() % 2 == 0 ? "0" : "1");
        }
        Due.due(deep.toString(), Texts.read(x, 0, deep.toString()), 1);
        Due.due("law(0, 0, 0, 0)", x.law(0, 0, 0, 0), 1);
        Due.due("waiting signs", Texts.read(x, 0, "1+(1|0&0<1-2*(3|0&1>2-5*(1|0&0=2-3*k)))"), 1);
        Due.due("law(0, 3, 0, 0)", x.law(0, 3, 0, 0), 2);
    }

    private static void lawWithout() {
        Due.topic("promise 16");
        SpoonsLast x = new SpoonsLast();
        for (int a = 0; a <= 9; a++) {
            Due.due("law(0, " + a + ", 77, 88)", x.law(0, a, 77, 88), a);
        }
        for (int a = 0; a <= 20; a++) {
            Due.due("law(1, " + a + ", 77, 88)", x.law(1, a, 77, 88), a);
        }
        Due.due("law(0, 10, 0, 0)", x.law(0, 10, 0, 0), 9);
        Due.due("law(0, -1, 5, 5)", x.law(0, -1, 5, 5), 0);
        Due.due("law(1, 21, 0, 0)", x.law(1, 21, 0, 0), 20);
        Due.due("law(1, -1, 5, 5)", x.law(1, -1, 5, 5), 0);
        Due.due("law(-1, 0, 0, 0)", x.law(-1, 0, 0, 0), Due.BEYOND);
        Due.due("law(2, 0, 0, 0)", x.law(2, 0, 0, 0), Due.BEYOND);
        for (int far : FAR) {
            Due.due("law(" + far + ", 0, 0, 0)", x.law(far, 0, 0, 0), Due.BEYOND);
        }
        Due.due("told(1)", x.told(1), 6);
    }

    /** Each with what it gives for NAMES 7, 3, 20 (USE 1, held within 0 to 20). */
    private static void laws() {
        Object[][] rows = {
            {"r", 7}, {"s", 3}, {"n", 20}, {"r+s*2", 13}, {"(r+s)*2", 20}, {"(r+s)*2-5", 15},
            {"r-s-2", 2}, {"r-(s-2)", 6}, {"n/s", 6}, {"n/s/2", 3}, {"n/(s/2)", 20}, {"n%r", 6},
            {"n%r%4", 2}, {"n/r*s", 6}, {"n*s/r", 8}, {"n/0", 0}, {"n%0", 0}, {"n/0+5", 5},
            {"n%(r-7)+4", 4}, {"(s-n)/5+9", 6}, {"(s-n)/2+9", 1}, {"(s-n)%5+9", 7},
            {"(n-s)%(0-5)", 2}, {"(n-s)/(0-5)+9", 6},
            {"r<s", 0}, {"s<r", 1}, {"r<r", 0}, {"r>s", 1}, {"s>r", 0}, {"r>r", 0}, {"r=7", 1},
            {"r=s", 0}, {"r<s+5", 1}, {"r+1=s+5", 1}, {"5&3", 1}, {"5&0", 0}, {"0&5", 0}, {"0&0", 0},
            {"5|3", 1}, {"5|0", 1}, {"0|5", 1}, {"0|0", 0}, {"!5", 0}, {"!0", 1}, {"!!5", 1},
            {"!(0-3)", 0}, {"(0-3)&1", 1}, {"(0-3)|0", 1}, {"1|0&0", 1}, {"(1|0)&0", 0}, {"0&0|1", 1},
            {"1<2&2<1", 0}, {"1<2|2<1", 1}, {"1&2=2", 1}, {"(1&2)=2", 0}, {"!r+5", 5}, {"!(r+5)+6", 6},
            {"!0*7", 7}, {"2*!0+1", 3}, {"0007", 7}, {"0010+1", 11}, {"9999-9985", 14},
            {"2-3+4", 3}, {"8/4*2", 4}, {"8%5*2", 6}, {"2*8%5", 1}, {"1=1=1", -1}, {"(1=1)=1", 1},
            {"2*3<7", 1}, {"7-2>4", 1}, {"(0-7)<0", 1}, {"(0-7)>0", 0}, {"0-(0-7)", 7},
            {"9999*9999*9999<0", 1}, {"9999*9999*43%10", 7},
            {"(9999*9999*9999>0)+(9999*9999>0)*2", 2},
            {"65536/16*8192*64=0-2147483647-1", -1},
            {"(4096*4096*128=0-9999)+(4096*4096*128<0)*2", 2},
            {"4096*4096*128/(0-1)<0", 1}, {"4096*4096*128%(0-1)", 0},
            {"(4096*4096*128-1)>0", 1}, {"4096*4096*256", 0}, {"4096*4096*256+9", 9},
        };
        for (Object[] row : rows) {
            SpoonsLast x = new SpoonsLast();
            int due = (Integer) row[1];
            int read = Texts.read(x, 1, (String) row[0]);
            if (due >= 0) {
                Due.due("text \"" + row[0] + "\"", read, 1);
                Due.due("\"" + row[0] + "\"", x.law(1, 7, 3, 20), due);
                Due.due("\"" + row[0] + "\" again", x.law(1, 7, 3, 20), due);
            } else {
                Due.due("text \"" + row[0] + "\"", read < -10 ? 1 : 0, 1);
            }
        }
    }

    private static void lawHeld() {
        SpoonsLast x = new SpoonsLast();
        Texts.read(x, 0, "k*100+w*10+s");
        Texts.read(x, 1, "r*100+s*10+n");
        Due.due("law(0, 0, 0, 9)", x.law(0, 0, 0, 9), 9);
        Due.due("law(0, 0, 1, 0)", x.law(0, 0, 1, 0), 9);
        Due.due("law(0, 0, 1, -1)", x.law(0, 0, 1, -1), 9);
        Due.due("law(0, 0, 1, -2)", x.law(0, 0, 1, -2), 8);
        Due.due("law(0, 0, 0, -1)", x.law(0, 0, 0, -1), 0);
        Due.due("law(0, 1, -10, 5)", x.law(0, 1, -10, 5), 5);
        Due.due("law(1, 0, 2, 0)", x.law(1, 0, 2, 0), 20);
        Due.due("law(1, 0, 2, 1)", x.law(1, 0, 2, 1), 20);
        Due.due("law(1, 0, 2, -1)", x.law(1, 0, 2, -1), 19);
        Due.due("law(1, 0, 0, -1)", x.law(1, 0, 0, -1), 0);
        Due.due("law(1, 1, -10, 5)", x.law(1, 1, -10, 5), 5);
        Due.due("law(1, 1, 0, 0)", x.law(1, 1, 0, 0), 20);
        Due.due("law(1, -1, 0, 0)", x.law(1, -1, 0, 0), 0);
    }

    private static void lawEdges() {
        SpoonsLast x = new SpoonsLast();
        Texts.read(x, 0, "k/w+s");
        Due.due("by 0", x.law(0, 5, 0, 4), 4);
        Due.due("the least int by -1", x.law(0, Integer.MIN_VALUE, -1, 0), 0);
        // The least int by -1 is itself, which 2147483647 brings to -1, and one more to 0.
        Due.due("the least int by -1, wrapped", x.law(0, Integer.MIN_VALUE, -1, Integer.MIN_VALUE), 0);
        Due.due("and 5", x.law(0, Integer.MIN_VALUE, -1, Integer.MIN_VALUE + 5), 5);
        Texts.read(x, 0, "k%w+s");
        Due.due("rest by 0", x.law(0, 5, 0, 4), 4);
        Due.due("rest of the least int by -1", x.law(0, Integer.MIN_VALUE, -1, 3), 3);
        Due.due("rest of -7 by 3", x.law(0, -7, 3, 5), 4);
        Due.due("rest of 7 by -3", x.law(0, 7, -3, 5), 6);
        Texts.read(x, 0, "k/w+s");
        Due.due("-7 by 2", x.law(0, -7, 2, 5), 2);
        Texts.read(x, 0, "k+w");
        Due.due("the sum wraps", x.law(0, Integer.MAX_VALUE, 1, 0), 0);
        Due.due("the sum wraps twice", x.law(0, Integer.MIN_VALUE, Integer.MIN_VALUE, 0), 0);
        Due.due("the sum wraps up", x.law(0, Integer.MIN_VALUE, -2147483646, 0), 2);
        Texts.read(x, 0, "k-w");
        Due.due("the rest wraps", x.law(0, Integer.MIN_VALUE, 2147483645, 0), 3);
        Texts.read(x, 0, "k*w");
        Due.due("the product wraps", x.law(0, 65536, 65536, 0), 0);
        Due.due("the product wraps to 7", x.law(0, 7, 1, 0), 7);
        Due.due("the product wraps below 0", x.law(0, 715827883, 3, 0), 0);
        Due.due("the product wraps to 1", x.law(0, -1431655765, 3, 0), 1);
        Texts.read(x, 0, "k<w");
        Due.due("the least is below the greatest", x.law(0, Integer.MIN_VALUE, Integer.MAX_VALUE, 0), 1);
        Texts.read(x, 0, "k>w");
        Due.due("the greatest is above the least", x.law(0, Integer.MAX_VALUE, Integer.MIN_VALUE, 0), 1);
    }
}
