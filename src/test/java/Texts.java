/** Brings letters to THE TAPE. */
final class Texts {
    private Texts() {
    }

    /** All the letters, up to 8 a call; how many there are as the last call told it. */
    static int feed(SpoonsLast x, String text) {
        int many = 0;
        for (int at = 0; at < text.length(); at += 8) {
            int n = Math.min(8, text.length() - at);
            long word = 0;
            for (int i = 0; i < n; i++) {
                word |= (long) text.charAt(at + i) << 8 * i;
            }
            many = x.feed(word, n);
        }
        return many;
    }

    /** What text(use) answers for the letters. */
    static int read(SpoonsLast x, int use, String text) {
        feed(x, text);
        return x.text(use);
    }
}
