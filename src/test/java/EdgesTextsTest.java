/** Edges of promises 14 to 16: the tape, texts, what a use gives. */
public final class EdgesTextsTest {
    private EdgesTextsTest() {
    }

    public static void main(String[] args) {
        feed();
        feedBeyond();
        feedFull();
        text();
        textBeyond();
        textFault();
        law();
        Due.end();
    }

    private static void feed() {
        Sentence.of("Promise 14", "The n lowest bytes (1 .. 8) of a word, the lowest first, come to THE TAPE: how many "
            + "there are.");
        for (int n = 1; n <= 8; n++) {
            // 1k1k.. : the first byte alone is a TEXT, the second is its FAULT.
            long word = 0x6B316B316B316B31L;
            new Run().due(n, "feed", word, n).due(n, "count", 7).due(n == 1 ? 1 : -11, "text", 0);
            // 1+1+.. : n bytes are a TEXT if n is odd. The bytes above them, all 255, stay out.
            long signs = 0x2B31_2B31_2B31_2B31L;
            long text = n == 8 ? signs : signs & (1L << 8 * n) - 1 | -1L << 8 * n;
            Run r = new Run().due(n, "feed", text, n);
            r.due(n % 2 == 1 ? 1 : -10 - n, "text", 0).due(n % 2 == 1 ? (n + 1) / 2 : 7, "law", 0, 7, 0, 0);
        }
        // The lowest first: 9-2, not 2-9. A highest byte above 127.
        new Run().due(3, "feed", '9' | '-' << 8 | '2' << 16, 3).due(1, "text", 0).due(7, "law", 0, 0, 0, 0);
        new Run().due(8, "feed", 0xFF_32_2B_32_2B_32_2B_31L, 8).due(-17, "text", 0);
        new Run().due(8, "feed", Long.MIN_VALUE, 8).due(-10, "text", 0);
        // 50 of them.
        Run r = new Run();
        for (int many = 1; many <= 50; many++) {
            r.due(many, "feed", 'k', 1);
        }
        r.due(50, "count", 7).due(-11, "text", 0).due(0, "count", 7).due(1, "feed", 'k', 1).due(1, "text", 0);
    }

    private static void feedBeyond() {
        Sentence.of("Promise 14", "BEYOND.");
        Refused.outside("feed", 1, 1, 8, 'k', 1);
        Refused.outside(Scene.FULL, "feed", 1, 1, 8, 'k', 1);
        Refused.in(Scene.BARE, Due.BEYOND, "feed", -1L, 0);
    }

    private static void feedFull() {
        Sentence.of("Promise 14", "FULL.");
        for (int n = 1; n <= 8; n++) {
            Refused.in(Scene.FULL, Due.FULL, "feed", 'k', n);
            Run r = new Run().feed("k".repeat(51 - n)).due(Due.FULL, "feed", 'k', n).due(51 - n, "count", 7);
            r = new Run().feed("k".repeat(50 - n)).due(50, "feed", 'k', n).due(Due.FULL, "feed", 'k', 1);
        }
    }

    private static void text() {
        Sentence.of("Promise 15", "THE TAPE, which is empty then, is the TEXT of a USE (0, 1), in place of one ahead: "
            + "1.");
        Run r = new Run().feed("k").due(1, "text", 0).due(0, "count", 7).due(5, "law", 0, 5, 8, 9);
        r.feed("w").due(1, "text", 0).due(0, "count", 7).due(8, "law", 0, 5, 8, 9).due(5, "law", 1, 5, 8, 9);
        r.feed("n").due(1, "text", 1).due(0, "count", 7).due(8, "law", 0, 5, 8, 9).due(9, "law", 1, 5, 8, 9);
        r.due(-10, "text", 0).due(-10, "text", 1).due(8, "law", 0, 5, 8, 9).due(9, "law", 1, 5, 8, 9);
        // One of 50 bytes in place of one of 1, and the other way round.
        r.text(0, "k" + "+1".repeat(24) + "1").due(9, "law", 0, -25, 0, 0).due(0, "count", 7);
        r.text(0, "s").due(3, "law", 0, 9, 9, 3).due(0, "count", 7);
    }

    private static void textBeyond() {
        Sentence.of("Promise 15", "BEYOND (THE TAPE stays).");
        Refused.outside("text", 0, 0, 1, 0);
        Refused.outside(Scene.FULL, "text", 0, 0, 1, 0);
        Run r = new Run().feed("k+2").due(Due.BEYOND, "text", 2).due(3, "count", 7).due(Due.BEYOND, "text", -1);
        r.due(3, "count", 7).due(5, "feed", '*' | '3' << 8, 2).due(1, "text", 0).due(7, "law", 0, 1, 0, 0);
    }

    private static void textFault() {
        Sentence.of("Promise 15", "-10 less the FAULT (no ERROR; the one ahead stays; THE TAPE is empty, too).");
        Run r = new Run();
        r.due(-10, "text", 0).due(4, "law", 0, 4, 0, 0).text(0, "k+1");
        r.fault(0, 0, "+").due(0, "count", 7).due(5, "law", 0, 4, 0, 0);
        r.fault(2, 0, "w+").due(0, "count", 7).due(5, "law", 0, 4, 0, 0);
        r.fault(0, 0, "").due(0, "count", 7).due(5, "law", 0, 4, 0, 0);
        r.fault(50, 0, "w" + "+1".repeat(24) + "+").due(0, "count", 7).due(5, "law", 0, 4, 0, 0);
        r.fault(49, 0, "w" + "+1".repeat(24) + "w").due(0, "count", 7).due(5, "law", 0, 4, 0, 0);
        r.fault(0, 1, "k").due(0, "count", 7).due(4, "law", 1, 4, 0, 0);
        for (int k = 1; k <= 5; k++) {
            r.due(0, "told", k);
        }
        r.feed("w").due(1, "text", 0).due(8, "law", 0, 4, 8, 0);
    }

    private static void law() {
        Sentence.of("Promise 16", "What a USE gives with its NAMES in order as a, b, c.");
        Run r = new Run();
        r.due(0, "law", 0, 0, 9, 9).due(9, "law", 0, 9, 0, 0).due(0, "law", 1, 0, 9, 9).due(20, "law", 1, 20, 0, 0);
        r.text(0, "k*9+w*3+s").text(1, "r*9+s*3+n");
        for (int use = 0; use < 2; use++) {
            r.due(0, "law", use, 0, 0, 0).due(1, "law", use, 0, 0, 1).due(3, "law", use, 0, 1, 0);
            r.due(9, "law", use, 1, 0, 0).due(0, "law", use, 0, 0, -1).due(8, "law", use, 1, 0, -1);
            r.due(use == 0 ? 9 : 13, "law", use, 1, 1, 1).due(use == 0 ? 9 : 20, "law", use, 3, 0, 0);
            r.due(0, "law", use, 0, 0, Integer.MIN_VALUE).due(use == 0 ? 9 : 20, "law", use, 0, 0, Integer.MAX_VALUE);
            r.due(0, "law", use, 0, 1, Integer.MAX_VALUE);
        }
        Sentence.of("Promise 16", "BEYOND.");
        Refused.outside("law", 0, 0, 1, 0, 1, 1, 1);
        Refused.outside(Scene.BARE, "law", 0, 0, 1, 0, 1, 1, 1);
    }
}
