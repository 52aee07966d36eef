import java.util.Random;

/** Long runs of calls, drawn by fixed seeds, on the class and on the Model at once. */
public final class RandomRunsTest {
    private static final int RUNS = 400;
    /** With the last step and the look at all, a run stays within the 512 calls of an object. */
    private static final int CALLS = 260;
    private static final String SIGNS = "|&<=>+-*/%!()0123456789kwsrn \u00e9";
    private static final int[] EDGES = {-1, 12, 13, 7, 8, 9, 10, 60, 61, 99, 100, 4095, 4096,
        Integer.MIN_VALUE, Integer.MAX_VALUE, -1000000001};

    private final Random dice;
    private final boolean wild;
    private final SpoonsLast x = new SpoonsLast();
    private final Model m = new Model();

    private RandomRunsTest(int run) {
        dice = new Random(run);
        wild = run % 8 == 7;
        Due.topic("run " + run);
    }

    public static void main(String[] args) {
        for (int run = 0; run < RUNS && Due.wrong() < 40; run++) {
            RandomRunsTest r = new RandomRunsTest(run);
            int before = Due.asked();
            r.furnish();
            while (Due.asked() - before < CALLS) {
                r.step();
            }
            r.lookAtAll();
        }
        Due.end();
    }

    /** Mostly from least to most, sometimes just beyond, seldom anything; in a wild run, often. */
    private int in(int least, int most) {
        int die = dice.nextInt(wild && dice.nextInt(3) == 0 ? 3 : 60);
        if (die == 0) {
            return EDGES[dice.nextInt(EDGES.length)];
        }
        if (die == 1) {
            return least - 1;
        }
        if (die == 2) {
            return most + 1;
        }
        if (die == 3) {
            return least;
        }
        if (die == 4) {
            return most;
        }
        return least + dice.nextInt(most - least + 1);
    }

    private int spoonThere() {
        return in(0, Math.max(0, m.count(0) - 1));
    }

    private void furnish() {
        int spoons = dice.nextInt(9);
        for (int i = 0; i < spoons; i++) {
            spoon();
        }
        if (dice.nextInt(8) != 0) {
            for (int p = 0; p < 6; p++) {
                swallow(p, dice.nextInt(9) - 1, dice.nextInt(12));
            }
            for (int p = 0; p < 4; p++) {
                wash(p, dice.nextInt(9) - 1);
            }
        }
        if (dice.nextInt(3) == 0) {
            text(dice.nextInt(2), true);
        }
    }

    private void spoon() {
        int km = in(0, 69);
        int silver = dice.nextInt(3) == 0 ? in(0, 99) : in(0, 20);
        Due.due("spoon(" + km + ", " + silver + ")", x.spoon(km, silver), m.spoon(km, silver));
    }

    private void swallow(int p, int s, int w) {
        Due.due("swallow(" + p + ", " + s + ", " + w + ")", x.swallow(p, s, w), m.swallow(p, s, w));
    }

    private void wash(int p, int s) {
        Due.due("wash(" + p + ", " + s + ")", x.wash(p, s), m.wash(p, s));
    }

    private void step() {
        switch (dice.nextInt(16)) {
            case 0: case 1: case 2: stepWords(); break;
            case 3: case 4: case 5: stepSpoons(); break;
            case 6: stepTexts(); break;
            case 7: stepHours(); break;
            case 8: case 9: case 10: stepThoughts(); break;
            case 11: stepSearches(); break;
            case 12: case 13: stepSheets(); break;
            case 14: stepVoices(); break;
            default: stepRest(); break;
        }
    }

    private void stepWords() {
        int p = in(0, 5);
        int w = in(0, 11);
        int v = in(0, 9);
        switch (dice.nextInt(7)) {
            case 0: Due.due("word(" + w + ", " + v + ")", x.word(w, v), m.word(w, v)); break;
            case 1:
                int what = in(0, 2);
                Due.due("ofWord(" + w + ", " + what + ")", x.ofWord(w, what), m.ofWord(w, what));
                break;
            case 2:
                int set = dice.nextInt(3) == 0 ? 0 : in(0, 4095);
                Due.due("known(" + set + ")", x.known(set), m.known(set));
                break;
            case 3: swallow(p, in(-1, 7), w); break;
            case 4: Due.due("ofSwallow(" + p + ")", x.ofSwallow(p), m.ofSwallow(p)); break;
            case 5: wash(in(0, 3), in(-1, 7)); break;
            default:
                int place = in(0, 3);
                Due.due("ofWash(" + place + ")", x.ofWash(place), m.ofWash(place));
                break;
        }
    }

    private void stepSpoons() {
        int s = spoonThere();
        switch (dice.nextInt(8)) {
            case 0: spoon(); break;
            case 1: case 2:
                int what = in(0, 16);
                Due.due("ofSpoon(" + s + ", " + what + ")", x.ofSpoon(s, what), m.ofSpoon(s, what));
                break;
            case 3: case 4: case 5:
                int part = dice.nextInt(4) == 0 ? 0 : in(0, 12);
                int v = part == 0 ? in(0, 99) : in(0, 9);
                Due.due("change(" + s + ", " + part + ", " + v + ")", x.change(s, part, v),
                    m.change(s, part, v));
                break;
            case 6:
                int km = in(0, 69);
                Due.due("become(" + s + ", " + km + ")", x.become(s, km), m.become(s, km));
                break;
            default:
                int k = in(0, 6);
                Due.due("as(" + s + ", " + k + ")", x.as(s, k), m.as(s, k));
                break;
        }
    }

    private void stepTexts() {
        int use = in(0, 1);
        switch (dice.nextInt(5)) {
            case 0: text(dice.nextInt(2), false); break;
            case 1: text(dice.nextInt(2), true); break;
            case 2:
                long word = dice.nextLong();
                int n = in(1, 8);
                Due.due("feed(" + word + ", " + n + ")", x.feed(word, n), m.feed(word, n));
                break;
            case 3: Due.due("text(" + use + ")", x.text(use), m.text(use)); break;
            default:
                int a = dice.nextInt(40) - 10;
                int b = in(0, 99);
                int c = in(0, 12);
                String call = "law(" + use + ", " + a + ", " + b + ", " + c + ")";
                Due.due(call, x.law(use, a, b, c), m.law(use, a, b, c));
                break;
        }
    }

    private void text(int use, boolean whole) {
        Due.due("text(" + (1 - use) + ")", x.text(1 - use), m.text(1 - use));
        StringBuilder t = new StringBuilder();
        for (int tries = 0; tries < 20; tries++) {
            t.setLength(0);
            write(t, use == 0 ? "kws" : "rsn", dice.nextInt(6), 0);
            if (t.length() <= 50) {
                break;
            }
        }
        if (!whole && t.length() > 0) {
            int i = dice.nextInt(t.length());
            switch (dice.nextInt(3)) {
                case 0: t.deleteCharAt(i); break;
                case 1: t.insert(i, SIGNS.charAt(dice.nextInt(SIGNS.length()))); break;
                default: t.setLength(i); break;
            }
        }
        int at = 0;
        while (at < t.length()) {
            int n = Math.min(1 + dice.nextInt(8), t.length() - at);
            long word = dice.nextInt(2) == 0 || n == 8 ? 0 : dice.nextLong() << 8 * n;
            for (int i = 0; i < n; i++) {
                word |= (long) t.charAt(at + i) << 8 * i;
            }
            Due.due("feed(" + word + ", " + n + ")", x.feed(word, n), m.feed(word, n));
            at += n;
        }
        Due.due("text(" + use + ") of " + t, x.text(use), m.text(use));
        for (int i = 0; i < 3; i++) {
            int a = dice.nextInt(30) - 5;
            int b = dice.nextInt(100);
            int c = dice.nextInt(13);
            String call = "law(" + use + ", " + a + ", " + b + ", " + c + ") of " + t;
            Due.due(call, x.law(use, a, b, c), m.law(use, a, b, c));
        }
    }

    private void write(StringBuilder t, String names, int size, int open) {
        int shape = size == 0 ? dice.nextInt(2) : 2 + dice.nextInt(6);
        if (shape == 0) {
            t.append(names.charAt(dice.nextInt(3)));
        } else if (shape == 1) {
            t.append(dice.nextInt(dice.nextInt(4) == 0 ? 10000 : 12));
        } else if (shape == 2 && open < 7) {
            t.append('!');
            write(t, names, size / 3, open + 1);
        } else if (shape == 3 && open < 7) {
            t.append('(');
            write(t, names, size - 1, open + 1);
            t.append(')');
        } else {
            write(t, names, size / 2, open);
            t.append("|&<=>+-*/%+-*/%".charAt(dice.nextInt(15)));
            write(t, names, size - 1 - size / 2, open);
        }
    }

    private void stepHours() {
        int n = dice.nextInt(3) == 0 ? in(1, 60) : 1 + dice.nextInt(5);
        if (dice.nextInt(3) != 0) {
            Due.due("hours(" + n + ")", x.hours(n), m.hours(n));
        } else {
            Due.due("loose(" + n + ")", x.loose(n), m.loose(n));
        }
    }

    private void stepThoughts() {
        int n = in(0, 60);
        int s = spoonThere();
        int w = in(0, 11);
        switch (dice.nextInt(8)) {
            case 0:
                int what = in(0, 1);
                String call = "then(" + n + ", " + s + ", " + what + ")";
                Due.due(call, x.then(n, s, what), m.then(n, s, what));
                break;
            case 1: Due.due("spreads(" + n + ")", x.spreads(n), m.spreads(n)); break;
            case 2: Due.due("when(" + w + ")", x.when(w), m.when(w)); break;
            case 3: Due.due("lasts(" + s + ")", x.lasts(s), m.lasts(s)); break;
            case 4: Due.due("gossip(" + n + ")", x.gossip(n), m.gossip(n)); break;
            case 5: Due.due("much(" + s + ")", x.much(s), m.much(s)); break;
            case 6: Due.due("washers()", x.washers(), m.washers()); break;
            default:
                int words = dice.nextInt(2) == 0 ? in(0, 4095) : m.count(6) & dice.nextInt(4096);
                Due.due("telling(" + words + ")", x.telling(words), m.telling(words));
                break;
        }
    }

    private void stepSearches() {
        int n = in(0, 60);
        int s = spoonThere();
        switch (dice.nextInt(6)) {
            case 0: Due.due("silverFor(" + s + ", " + n + ")", x.silverFor(s, n), m.silverFor(s, n)); break;
            case 1:
                int p = in(0, 3);
                Due.due("washFor(" + p + ", " + n + ")", x.washFor(p, n), m.washFor(p, n));
                break;
            case 2: Due.due("kindFor(" + s + ", " + n + ")", x.kindFor(s, n), m.kindFor(s, n)); break;
            case 3:
                int of = in(0, 30);
                int w = in(0, 11);
                for (int part = 0; part < 2; part++) {
                    String call = "odds(" + of + ", " + w + ", " + part + ")";
                    Due.due(call, x.odds(of, w, part), m.odds(of, w, part));
                }
                break;
            default: byTheSpreads(); break;
        }
    }

    /** A SHEET, and numbers that wait, most often as the SPREADS really are. */
    private void byTheSpreads() {
        int t = in(0, 3);
        int bits = 8 << dice.nextInt(3);
        int n = dice.nextInt(13);
        Due.due("sheet(" + t + ", " + bits + ", " + n + ")", x.sheet(t, bits, n), m.sheet(t, bits, n));
        int wrongAt = dice.nextInt(3) == 0 ? dice.nextInt(13) : -1;
        for (int i = 0; i < n; i++) {
            int v = m.spreads(i + 1) + (i == wrongAt ? 1 : 0);
            Due.due("put(" + t + ", " + i + ", " + v + ")", x.put(t, i, v), m.put(t, i, v));
            if (dice.nextInt(2) == 0 || i == 0) {
                Due.due("tell(" + v + ")", x.tell(v), m.tell(v));
            }
        }
        int s = spoonThere();
        for (int what = 0; what < 2; what++) {
            String call = "rubbed(" + t + ", " + s + ", " + what + ")";
            Due.due(call, x.rubbed(t, s, what), m.rubbed(t, s, what));
        }
        Due.due("which(" + t + ", " + s + ")", x.which(t, s), m.which(t, s));
        Due.due("check()", x.check(), m.check());
    }

    private void stepSheets() {
        int t = in(0, 3);
        switch (dice.nextInt(7)) {
            case 0: case 1:
                int bits = dice.nextInt(20) == 0 ? in(0, 33) : 8 * (dice.nextInt(2) * 2);
                bits = dice.nextInt(3) == 0 ? 32 : bits == 0 && dice.nextInt(3) != 0 ? 8 : bits;
                int n = in(0, 40);
                Due.due("sheet(" + t + ", " + bits + ", " + n + ")", x.sheet(t, bits, n),
                    m.sheet(t, bits, n));
                break;
            case 2: case 3:
                int i = in(0, 14);
                int v = dice.nextInt(4) == 0 ? dice.nextInt(1 << 18) : in(0, 9);
                Due.due("put(" + t + ", " + i + ", " + v + ")", x.put(t, i, v), m.put(t, i, v));
                break;
            case 4:
                int from = in(0, 8);
                int o = in(0, 3);
                int to = in(0, 8);
                int many = in(0, 6);
                String call = "move(" + t + ", " + from + ", " + o + ", " + to + ", " + many + ")";
                Due.due(call, x.move(t, from, o, to, many), m.move(t, from, o, to, many));
                break;
            case 5: Due.due("weights(" + t + ")", x.weights(t), m.weights(t)); break;
            default: judge(t); break;
        }
    }

    private void judge(int t) {
        if (dice.nextInt(2) == 0) {
            int n = Math.max(0, m.count(0) + dice.nextInt(5) / 2 - 1);
            Due.due("sheet(" + t + ", 16, " + n + ")", x.sheet(t, 16, n), m.sheet(t, 16, n));
            for (int i = 0; i < m.count(0); i++) {
                int v = m.ofSpoon(i, 2) + dice.nextInt(12) / 11;
                Due.due("put(" + t + ", " + i + ", " + v + ")", x.put(t, i, v), m.put(t, i, v));
            }
        }
        Due.due("judge(" + t + ")", x.judge(t), m.judge(t));
    }

    private void stepVoices() {
        int v = dice.nextInt(3) == 0 ? dice.nextInt() : dice.nextInt(40) - 20;
        if (dice.nextInt(3) == 0) {
            Due.due("seed(" + v + ")", x.seed(v), m.seed(v));
            return;
        }
        int s = spoonThere();
        int act = in(0, 3);
        String call = "voice(" + s + ", " + act + ", " + v + ")";
        Due.due(call, x.voice(s, act, v), m.voice(s, act, v));
        for (int i = -1; i < 3; i++) {
            int at = i < 0 ? in(0, 12) : i;
            Due.due("trace(" + at + ")", x.trace(at), m.trace(at));
        }
    }

    private void stepRest() {
        int v = in(0, 12);
        switch (dice.nextInt(6)) {
            case 0: Due.due("image()", x.image(), m.image()); break;
            case 1: Due.due("restore()", x.restore(), m.restore()); break;
            case 2: Due.due("tell(" + v + ")", x.tell(v), m.tell(v)); break;
            case 3: Due.due("check()", x.check(), m.check()); break;
            case 4: Due.due("count(" + v + ")", x.count(v), m.count(v)); break;
            default: Due.due("told(" + v + ")", x.told(v), m.told(v)); break;
        }
    }

    private void lookAtAll() {
        for (int what = -1; what < 12; what++) {
            Due.due("count(" + what + ")", x.count(what), m.count(what));
        }
        for (int p = 0; p < 6; p++) {
            Due.due("ofSwallow(" + p + ")", x.ofSwallow(p), m.ofSwallow(p));
            Due.due("ofWash(" + p + ")", x.ofWash(p), m.ofWash(p));
        }
        for (int w = 0; w < 12; w++) {
            Due.due("ofWord(" + w + ", 0)", x.ofWord(w, 0), m.ofWord(w, 0));
        }
        for (int s = 0; s < 8; s++) {
            for (int what = 0; what < 17; what++) {
                Due.due("ofSpoon(" + s + ", " + what + ")", x.ofSpoon(s, what), m.ofSpoon(s, what));
            }
        }
        for (int k = 0; k < 7; k++) {
            Due.due("told(" + k + ")", x.told(k), m.told(k));
        }
    }
}
