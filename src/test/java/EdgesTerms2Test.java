/** Edges of number 2 of "Terms": THE TAPE, TEXTS and their FAULTS, USES. */
public final class EdgesTerms2Test {
    private EdgesTerms2Test() {
    }

    public static void main(String[] args) {
        tape();
        ors();
        ands();
        comparisons();
        sums();
        products();
        parts();
        numbers();
        names();
        blanks();
        open();
        openIsClosed();
        wraps();
        byNothing();
        truth();
        allWorkedOut();
        faults();
        faultAtTheEnd();
        usesHeld();
        usesWithout();
        Due.end();
    }

    /** What letters give for r 7, s 3, n 20, held within 0 to 20. */
    private static void gives(int due, String letters) {
        Run r = new Run().text(1, letters);
        Due.due("\"" + letters + "\"", r.call("law", 1, 7, 3, 20), due);
    }

    private static void isFault(int fault, String letters) {
        new Run().fault(fault, 1, letters);
    }

    private static void tape() {
        Sentence.of("Terms", "TEXTS are read from THE TAPE (bytes, at most 50):");
        String fifty = "r" + "+1".repeat(24) + "5";
        Due.due("letters", fifty.length(), 50);
        Run r = new Run().feed(fifty).due(50, "count", 7).due(Due.FULL, "feed", '6', 1).due(50, "count", 7);
        r.due(1, "text", 1).due(0, "count", 7).due(20, "law", 1, -18, 0, 0).due(18, "law", 1, -20, 0, 0);
        // A byte is any of 256.
        for (int b : new int[] {0, 1, 9, 10, 32, 127, 128, 'r' + 128, 233, 255}) {
            r.due(1, "feed", b, 1).due(-10, "text", 1);
        }
        r.due(2, "feed", 'r' + 256 * 0xF2, 2).due(-11, "text", 1);
        r.due(1, "feed", 'r' + 256 * 0xF2, 1).due(1, "text", 1);
        r.due(8, "feed", -1L, 8).due(-10, "text", 1);
    }

    private static void ors() {
        Sentence.of("Terms", "T: A { | A }.");
        gives(1, "1");
        gives(1, "0|1");
        gives(1, "0|0|0|0|0|0|0|0|0|0|0|0|0|0|0|0|0|0|0|0|0|0|0|0|2");
        gives(0, "0|0");
        gives(1, "1|0&0");
        isFault(0, "|r");
        isFault(2, "r|");
        isFault(2, "r||s");
    }

    private static void ands() {
        Sentence.of("Terms", "A: B { & B }.");
        gives(7, "r");
        gives(1, "r&s");
        gives(0, "1&1&1&1&1&1&1&1&1&1&1&1&1&1&1&1&1&1&1&1&1&1&1&1&0");
        gives(1, "0&0|1");
        isFault(0, "&r");
        isFault(2, "r&");
        isFault(2, "r&&s");
        isFault(2, "r&|s");
    }

    private static void comparisons() {
        Sentence.of("Terms", "B: S, or S < S, S = S, S > S.");
        gives(0, "r<s");
        gives(1, "s<r");
        gives(0, "r<r");
        gives(1, "r=r");
        gives(0, "r=s");
        gives(1, "r>s");
        gives(0, "s>r");
        gives(0, "r>r");
        gives(1, "1<2&2<3&3<4|4<3");
        gives(1, "(1<2)<3");
        gives(0, "3<(2<1)");
        gives(1, "r-4=s&r=s+4");
        for (String one : new String[] {"<", "=", ">"}) {
            isFault(0, one + "r");
            isFault(2, "r" + one);
            for (String other : new String[] {"<", "=", ">"}) {
                isFault(2, "r" + one + other + "s");
                isFault(3, "r" + one + "s" + other + "1");
                isFault(6, "(r" + one + "s)" + other);
                isFault(4, "(r" + one + "s" + other + "1)");
            }
        }
    }

    private static void sums() {
        Sentence.of("Terms", "S: P { + P, - P }.");
        gives(8, "r+s-2");
        gives(6, "r-s+2");
        gives(2, "r-s-2");
        gives(20, "0+1+1+1+1+1+1+1+1+1+1+1+1+1+1+1+1+1+1+1+1+1+1+1-3");
        isFault(0, "+r");
        isFault(0, "-r");
        isFault(2, "r+");
        isFault(2, "r-");
        isFault(2, "r+-s");
        isFault(2, "r--s");
    }

    private static void products() {
        Sentence.of("Terms", "P: Q { * Q, / Q, % Q }.");
        gives(13, "r+s*2");
        gives(1, "r-s*2");
        gives(8, "n*s/r");
        gives(6, "n/r*s");
        gives(2, "n%r%4");
        gives(1, "2*2%3");
        gives(4, "2*(8%3)");
        gives(1, "2*2*2*2*2*2*2*2*2*2*2*2*2*2*2*2*2*2*2*2*2*2*2%3/2");
        isFault(0, "*r");
        isFault(0, "/r");
        isFault(0, "%r");
        isFault(2, "r*");
        isFault(2, "r/*s");
        isFault(2, "r%%s");
    }

    private static void parts() {
        Sentence.of("Terms", "a NAME, ! Q, ( T ).");
        gives(0, "!r");
        gives(1, "!!r");
        gives(5, "!r+5");
        gives(1, "!(r-7)");
        gives(20, "(r+s)*2");
        gives(7, "(r)");
        gives(1, "(0|1)");
        isFault(1, "!");
        isFault(1, "!)");
        isFault(1, "!+r");
        isFault(1, "r!");
        isFault(1, "r(");
        isFault(1, "(");
        isFault(1, "()");
        isFault(2, "(r");
        isFault(3, "(r))");
        isFault(3, "(r)(s)");
        isFault(3, "(r)s");
        isFault(0, ")");
        isFault(1, "r)");
        isFault(0, "");
    }

    private static void numbers() {
        Sentence.of("Terms", "Q: a NUMBER of 1 to 4 digits,");
        gives(0, "0");
        gives(9, "9");
        gives(10, "10");
        gives(0, "0000");
        gives(7, "0007");
        gives(20, "9999");
        gives(1, "9999-9998");
        gives(3, "9999-9996");
        isFault(4, "10000");
        isFault(4, "00000");
        isFault(4, "00007");
        isFault(6, "r+12345");
        isFault(2, "12r");
        isFault(4, "1234r");
        isFault(1, "r1");
        for (char c = 0; c < 256; c++) {
            if (c >= '0' && c <= '9') {
                gives(c - '0', "" + c);
            } else if ("rsn!(".indexOf(c) < 0) {
                isFault(0, "" + c);
            }
        }
    }

    private static void names() {
        Sentence.of("Terms", "USES: 0 FRESH, NAMES k for how long it STAYS, w WEIGHT, s SILVER;");
        String letters = "kws";
        for (int i = 0; i < 3; i++) {
            long[] row = {0, 1, 1, 1};
            row[1 + i] = 6;
            new Run().text(0, letters.substring(i, i + 1)).due(6, "law", row);
        }
        for (String other : new String[] {"r", "n", "K", "W", "S", "x", "j", "l", "t", "v"}) {
            new Run().fault(0, 0, other).fault(2, 0, "k+" + other);
        }
        new Run().fault(1, 0, "kw");
        // A SALT of WEIGHT 8, 70 SILVER.
        Run r = new Run().text(0, "(k=8)+(w=8)*2+(s=70)*4").make("spoon", 30, 70).make("word", 0, 8);
        r.make("swallow", 0, 0, 0).make("hours", 1).due(6, "ofSpoon", 0, 5);
        Sentence.of("Terms", "1 RUB, NAMES r what it WEARS, s SILVER, n how many WORDS are ON it;");
        letters = "rsn";
        for (int i = 0; i < 3; i++) {
            long[] row = {1, 1, 1, 1};
            row[1 + i] = 6;
            new Run().text(1, letters.substring(i, i + 1)).due(6, "law", row);
        }
        for (String other : new String[] {"k", "w", "R", "S", "N", "q", "t", "m", "o"}) {
            new Run().fault(0, 1, other).fault(2, 1, "r+" + other);
        }
        // A CADDY with 12 WORDS ON it, 70 SILVER.
        r = new Run().text(1, "(r=15)+(s=70)*2+(n=12)*4").make("spoon", 60, 70);
        for (int w = 0; w < 12; w++) {
            r.make("change", 0, 1 + w, 1);
        }
        r.due(7, "ofSpoon", 0, 4);
    }

    private static void blanks() {
        Sentence.of("Terms", "No blanks.");
        isFault(0, " r");
        isFault(1, "r ");
        isFault(1, "r +s");
        isFault(2, "r+ s");
        isFault(1, "( r)");
        isFault(1, "! r");
        isFault(1, "1 0");
        isFault(1, "r\n");
        isFault(1, "r\t");
        isFault(1, "r\u0000");
    }

    private static void open() {
        Sentence.of("Terms", "At most 5 of ! and ( are open at once.");
        gives(0, "!!!!!r");
        isFault(5, "!!!!!!r");
        gives(7, "(((((r)))))");
        isFault(5, "((((((r))))))");
        isFault(5, "(((((!r)))))");
        isFault(5, "!!!!!(r)");
        gives(1, "!(!(!0))");
        isFault(5, "!(!(!(r)))");
        isFault(5, "(!(!((r))))");
        isFault(5, "(!(!(!r)))");
        isFault(5, "!!!!!!");
        isFault(5, "((((((");
        isFault(15, "(((((r))))+!!!!!");
    }

    /** A ! is open until its Q has been read, a ( until its ). */
    private static void openIsClosed() {
        Sentence.of("Terms", "At most 5 of ! and ( are open at once.");
        gives(7, "(((((r)))))+!!!!!r+(((((0)))))");
        gives(0, "!!!!!r*!!!!!s|!!!!!n<!!!!!r");
        gives(0, "(!!!!r+!!!!s)*0");
        isFault(11, "(!!!!r+!!!!!s)");
        isFault(11, "(!!!!r+(((((s)))))");
        gives(14, "((((r+(s)+(4)))))");
        isFault(7, "((((r+(!s)))))");
        isFault(7, "!!!!(r+!s)");
        gives(1, "!!!!(r)+!r");
        gives(0, "!(!(!r+1)+1)");
    }

    private static void wraps() {
        Sentence.of("Terms", "Ints that wrap;");
        Run r = new Run().text(0, "k+w");
        r.due(0, "law", 0, Integer.MAX_VALUE, 1, 0).due(2, "law", 0, Integer.MIN_VALUE, Integer.MIN_VALUE + 2, 0);
        r.due(9, "law", 0, Integer.MAX_VALUE, 0, 0).due(0, "law", 0, Integer.MIN_VALUE, 0, 0);
        r.text(0, "k-w");
        r.due(3, "law", 0, Integer.MIN_VALUE, Integer.MAX_VALUE - 2, 0);
        r.due(0, "law", 0, Integer.MAX_VALUE, -1, 0).due(0, "law", 0, 0, Integer.MIN_VALUE, 0);
        r.text(0, "k*w");
        r.due(0, "law", 0, 65536, 65536, 0).due(4, "law", 0, 1073741825, 4, 0);
        r.due(0, "law", 0, 46341, 46341, 0).due(9, "law", 0, 46340, 46340, 0);
        r.text(0, "k/w+s");
        r.due(5, "law", 0, Integer.MIN_VALUE, -1, Integer.MIN_VALUE + 5);
        r.text(0, "k%w+s");
        r.due(5, "law", 0, Integer.MIN_VALUE, -1, 5);
        r.text(0, "9999*9999*9999<0").due(1, "law", 0, 0, 0, 0);
        r.text(0, "k<w").due(1, "law", 0, Integer.MIN_VALUE, Integer.MAX_VALUE, 0);
        r.due(0, "law", 0, Integer.MAX_VALUE, Integer.MIN_VALUE, 0);
        r.text(0, "k>w").due(1, "law", 0, Integer.MAX_VALUE, Integer.MIN_VALUE, 0);
    }

    private static void byNothing() {
        Sentence.of("Terms", "/ cut, % the rest that it leaves, both by 0 are 0;");
        Run r = new Run().text(0, "k/w+s");
        r.due(5, "law", 0, 7, 0, 5).due(5, "law", 0, -7, 0, 5).due(5, "law", 0, 0, 0, 5);
        r.due(5, "law", 0, Integer.MIN_VALUE, 0, 5).due(6, "law", 0, 7, 7, 5).due(5, "law", 0, 6, 7, 5);
        r.due(4, "law", 0, -7, 7, 5).due(5, "law", 0, -6, 7, 5).due(4, "law", 0, -13, 7, 5);
        r.due(4, "law", 0, 13, -7, 5).due(6, "law", 0, -13, -7, 5);
        r.text(0, "k%w+s");
        r.due(5, "law", 0, 7, 0, 5).due(5, "law", 0, -7, 0, 5).due(5, "law", 0, 0, 0, 5);
        r.due(5, "law", 0, Integer.MIN_VALUE, 0, 5).due(5, "law", 0, 7, 7, 5).due(8, "law", 0, 10, 7, 5);
        r.due(2, "law", 0, -10, 7, 5).due(8, "law", 0, 10, -7, 5).due(2, "law", 0, -10, -7, 5);
        gives(5, "9/0+5");
        gives(5, "9%0+5");
        gives(5, "9/(r-7)*3%0+5");
    }

    private static void truth() {
        Sentence.of("Terms", "| & < = > ! are 1 or 0, what is not 0 being true;");
        int[] values = {0, 1, 2, -1, Integer.MIN_VALUE, Integer.MAX_VALUE};
        for (int a : values) {
            Run r = new Run().text(1, "!r+5").due(a == 0 ? 6 : 5, "law", 1, a, 0, 0);
            for (int b : values) {
                r.text(1, "(r|s)+5").due(a != 0 || b != 0 ? 6 : 5, "law", 1, a, b, 0);
                r.text(1, "(r&s)+5").due(a != 0 && b != 0 ? 6 : 5, "law", 1, a, b, 0);
                r.text(1, "(r<s)+5").due(a < b ? 6 : 5, "law", 1, a, b, 0);
                r.text(1, "(r=s)+5").due(a == b ? 6 : 5, "law", 1, a, b, 0);
                r.text(1, "(r>s)+5").due(a > b ? 6 : 5, "law", 1, a, b, 0);
            }
        }
    }

    private static void allWorkedOut() {
        Sentence.of("Terms", "all is worked out.");
        gives(1, "1|1/0");
        gives(0, "0&1/0");
        gives(1, "1|0|1/0|0%0");
        gives(0, "0&(1/0)&!(1%0)");
        gives(4, "(1|0)+(0&1)+(1|1)+(0|1)+(1&2)");
    }

    private static void faults() {
        Sentence.of("Terms", "FAULT: the place of the first byte with which no TEXT goes on;");
        isFault(0, "x");
        isFault(1, "rx");
        isFault(2, "r+x");
        isFault(2, "r+x+y)");
        isFault(3, "!!!x");
        isFault(4, "1|2&x<3");
        isFault(49, "r" + "+1".repeat(24) + "r");
        isFault(48, "r" + "+1".repeat(23) + "++1");
        isFault(4, "1".repeat(50));
        isFault(0, "x".repeat(50));
        isFault(1, "r\u00f2");
        isFault(12, "(r+s)*(n-1)+)");
    }

    private static void faultAtTheEnd() {
        Sentence.of("Terms", "how many there are, if it ends too early.");
        isFault(0, "");
        isFault(1, "!");
        isFault(1, "(");
        isFault(2, "r+");
        isFault(5, "(((((");
        isFault(5, "!!!!!");
        isFault(10, "(((((r))))");
        isFault(50, "r" + "+1".repeat(24) + "+");
        isFault(50, "(" + "r" + "+1".repeat(24));
        isFault(49, "r" + "+1".repeat(23) + "+(");
    }

    private static void usesHeld() {
        Sentence.of("Terms", "held within 0 to 9; without a TEXT k.");
        Run r = new Run().text(0, "k");
        r.due(9, "law", 0, 9, 0, 0).due(9, "law", 0, 10, 0, 0).due(8, "law", 0, 8, 0, 0);
        r.due(0, "law", 0, 0, 0, 0).due(0, "law", 0, -1, 0, 0).due(1, "law", 0, 1, 0, 0);
        r.due(9, "law", 0, Integer.MAX_VALUE, 0, 0).due(0, "law", 0, Integer.MIN_VALUE, 0, 0);
        Sentence.of("Terms", "held within 0 to 20; without a TEXT r.");
        r.text(1, "r");
        r.due(20, "law", 1, 20, 0, 0).due(20, "law", 1, 21, 0, 0).due(19, "law", 1, 19, 0, 0);
        r.due(0, "law", 1, 0, 0, 0).due(0, "law", 1, -1, 0, 0).due(1, "law", 1, 1, 0, 0);
        r.due(20, "law", 1, Integer.MAX_VALUE, 0, 0).due(0, "law", 1, Integer.MIN_VALUE, 0, 0);
    }

    private static void usesWithout() {
        Sentence.of("Terms", "held within 0 to 9; without a TEXT k.");
        Run r = new Run();
        for (int k = 0; k <= 9; k++) {
            r.due(k, "law", 0, k, 9 - k, 99);
        }
        // A TEXT of the other USE is none of this one.
        r.text(1, "7").due(4, "law", 0, 4, 1, 1).due(7, "law", 1, 4, 1, 1);
        // What it STAYS without a TEXT, held: 14.
        r = new Run().make("spoon", 40, 5).make("word", 0, 9).make("swallow", 0, 0, 0).make("hours", 1);
        r.due(8, "ofSpoon", 0, 5);
        Sentence.of("Terms", "held within 0 to 20; without a TEXT r.");
        r = new Run();
        for (int k = 0; k <= 20; k++) {
            r.due(k, "law", 1, k, 20 - k, 12);
        }
        r.text(0, "7").due(4, "law", 1, 4, 1, 1).due(7, "law", 0, 4, 1, 1);
    }
}
