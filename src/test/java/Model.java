import java.util.ArrayList;
import java.util.Arrays;
import java.util.HashMap;
import java.util.List;
import java.util.Map;

/**
 * The document once more, for random runs to be likened with: slow, with whole copies for each
 * thought, TEXTS worked out anew from their letters, and no part shared with the class.
 */
final class Model {
    static final class Item {
        int kind;
        int m;
        int silver;
        int[] fresh = new int[12];

        Item copy() {
            Item i = new Item();
            i.kind = kind;
            i.m = m;
            i.silver = silver;
            i.fresh = fresh.clone();
            return i;
        }

        int on() {
            int set = 0;
            for (int w = 0; w < 12; w++) {
                set += fresh[w] > 0 ? 1 << w : 0;
            }
            return set;
        }

        int stays(int w) {
            switch (kind) {
                case 0: case 2: return 3;
                case 1: return 3 + w / 2;
                case 3: return w;
                case 4: return 6 + w / 2 * 2;
                case 5: return 3 + m / 3;
                default: return silver < 10 ? 9 : w;
            }
        }

        int reads() {
            switch (kind) {
                case 0: case 3: return 3;
                case 1: return 2;
                case 4: return m > 4 ? 1 : 2;
                case 2: case 5: return 5;
                default: return 9;
            }
        }

        int wears(int n) {
            switch (kind) {
                case 0: case 2: return 1;
                case 1: case 4: return 2;
                case 3: return 3;
                case 5: return n == 0 ? 0 : 1;
                default: return 3 + n;
            }
        }
    }

    static final class World {
        int[] weight = {0, 1, 2, 3, 4, 5, 6, 7, 8, 9, 0, 1};
        boolean[] known = new boolean[12];
        int hour = 0;
        int[][] swallows = {{-1, 0}, {-1, 0}, {-1, 0}, {-1, 0}, {-1, 0}, {-1, 0}};
        int[] washes = {-1, -1, -1, -1};
        List<Item> items = new ArrayList<>();
        String[] texts = new String[2];
        String tape = "";
        int z = 1;
        List<Integer> waits = new ArrayList<>();

        World copy() {
            World c = new World();
            c.weight = weight.clone();
            c.known = known.clone();
            c.hour = hour;
            for (int i = 0; i < 6; i++) {
                c.swallows[i] = swallows[i].clone();
            }
            c.washes = washes.clone();
            for (Item i : items) {
                c.items.add(i.copy());
            }
            c.texts = texts.clone();
            c.tape = tape;
            c.z = z;
            c.waits = new ArrayList<>(waits);
            return c;
        }

        int knownSet() {
            int set = 0;
            for (int w = 0; w < 12; w++) {
                set += known[w] ? 1 << w : 0;
            }
            return set;
        }

        int spreads() {
            return Integer.bitCount(knownSet());
        }

        Item useful(int s) {
            return s < 0 || s >= items.size() || items.get(s).silver == 0 ? null : items.get(s);
        }

        int law(int use, int a, int b, int c) {
            int v = a;
            if (texts[use] != null) {
                v = new Evaluator(texts[use], use == 0 ? "kws" : "rsn", a, b, c).all();
            }
            int most = use == 0 ? 9 : 20;
            return v < 0 ? 0 : v > most ? most : v;
        }

        int rub(Item i) {
            int n = Integer.bitCount(i.on());
            return law(1, i.wears(n), i.silver, n);
        }

        void passOne() {
            Item eats = useful(swallows[hour % 6][0]);
            if (eats != null) {
                int w = swallows[hour % 6][1];
                int f = law(0, eats.stays(weight[w]), weight[w], eats.silver);
                eats.fresh[w] = Math.max(eats.fresh[w], f);
            }
            Item washed = useful(washes[hour % 4]);
            if (washed != null) {
                int less = rub(washed);
                for (int w = 0; w < 12; w++) {
                    if (washed.fresh[w] > 0 && washed.fresh[w] >= washed.reads()) {
                        known[w] = true;
                    }
                }
                washed.silver = Math.max(0, washed.silver - less);
                for (int w = 0; w < 12; w++) {
                    if (washed.silver == 0) {
                        known[w] |= washed.fresh[w] > 0;
                        washed.fresh[w] = 0;
                    } else {
                        washed.fresh[w] /= 2;
                    }
                }
            }
            for (Item i : items) {
                for (int w = 0; w < 12; w++) {
                    i.fresh[w] = Math.max(0, i.fresh[w] - 1);
                }
            }
            hour++;
        }

        World behind(int n) {
            World c = copy();
            for (int i = 0; i < n; i++) {
                c.passOne();
            }
            return c;
        }

        int draw() {
            z = z * 1103515245 + 12345;
            return z >>> 8;
        }
    }

    /** Splits a TEXT that is known to be one at its loosest sign each time. */
    static final class Evaluator {
        private final String text;
        private final Map<Character, Integer> names = new HashMap<>();

        Evaluator(String text, String letters, int a, int b, int c) {
            this.text = text;
            names.put(letters.charAt(0), a);
            names.put(letters.charAt(1), b);
            names.put(letters.charAt(2), c);
        }

        int all() {
            return value(text);
        }

        private int value(String t) {
            for (String signs : new String[] {"|", "&", "<=>", "+-", "*/%"}) {
                int depth = 0;
                for (int i = t.length() - 1; i >= 0; i--) {
                    char c = t.charAt(i);
                    depth += c == ')' ? 1 : c == '(' ? -1 : 0;
                    if (depth == 0 && signs.indexOf(c) >= 0) {
                        return join(c, value(t.substring(0, i)), value(t.substring(i + 1)));
                    }
                }
            }
            char first = t.charAt(0);
            if (first == '!') {
                return value(t.substring(1)) == 0 ? 1 : 0;
            }
            if (first == '(') {
                return value(t.substring(1, t.length() - 1));
            }
            return names.containsKey(first) ? names.get(first) : Integer.parseInt(t);
        }

        private static int join(char sign, int l, int r) {
            switch (sign) {
                case '|': return l != 0 | r != 0 ? 1 : 0;
                case '&': return l != 0 & r != 0 ? 1 : 0;
                case '<': return l < r ? 1 : 0;
                case '=': return l == r ? 1 : 0;
                case '>': return l > r ? 1 : 0;
                case '+': return l + r;
                case '-': return l - r;
                case '*': return l * r;
                case '/': return r == 0 ? 0 : l / r;
                default: return r == 0 ? 0 : l % r;
            }
        }
    }

    /**
     * Where a tape stops being the beginning of a TEXT, with a row of what is open in place of
     * recursion; -1: it is a TEXT.
     */
    static int fault(String tape, String letters) {
        List<Character> open = new ArrayList<>();
        List<Boolean> compared = new ArrayList<>();
        compared.add(false);
        boolean wanted = true;
        int digits = 0;
        for (int i = 0; i < tape.length(); i++) {
            char c = tape.charAt(i);
            boolean digit = c >= '0' && c <= '9';
            int top = compared.size() - 1;
            if (wanted && (c == '!' || c == '(')) {
                if (open.size() == 5) {
                    return i;
                }
                open.add(c);
                if (c == '(') {
                    compared.add(false);
                }
                continue;
            }
            if (wanted) {
                if (!digit && letters.indexOf(c) < 0) {
                    return i;
                }
                digits = digit ? 1 : 4;
                wanted = false;
                closeNots(open);
                continue;
            }
            if (digit) {
                if (digits == 4) {
                    return i;
                }
                digits++;
                continue;
            }
            digits = 4;
            if (c == ')') {
                if (compared.size() == 1) {
                    return i;
                }
                compared.remove(top);
                open.remove(open.size() - 1);
                closeNots(open);
            } else if ("|&".indexOf(c) >= 0) {
                compared.set(top, false);
                wanted = true;
            } else if ("<=>".indexOf(c) >= 0) {
                if (compared.get(top)) {
                    return i;
                }
                compared.set(top, true);
                wanted = true;
            } else if ("+-*/%".indexOf(c) >= 0) {
                wanted = true;
            } else {
                return i;
            }
        }
        return wanted || !open.isEmpty() ? tape.length() : -1;
    }

    private static void closeNots(List<Character> open) {
        while (!open.isEmpty() && open.get(open.size() - 1) == '!') {
            open.remove(open.size() - 1);
        }
    }

    private World now = new World();
    private World image = null;
    private int images = 0;
    private final int[] bits = new int[4];
    private final int[][] sheets = new int[4][];
    private List<Integer> trace = new ArrayList<>();
    private final int[] errors = new int[6];

    private int no(int k) {
        errors[k]++;
        return -1000000000 - k;
    }

    private static boolean out(int v, int from, int to) {
        return v < from || v > to;
    }

    private boolean lacks(int s) {
        return s < 0 || s >= now.items.size();
    }

    int word(int word, int v) {
        if (out(word, 0, 11) || out(v, 0, 9)) return no(1);
        int was = now.weight[word];
        now.weight[word] = v;
        return was;
    }

    int ofWord(int word, int what) {
        if (out(word, 0, 11) || out(what, 0, 2)) return no(1);
        if (what == 0) return now.weight[word];
        if (what == 1) return now.known[word] ? 1 : 0;
        int set = 0;
        for (int s = 0; s < now.items.size(); s++) {
            if (now.items.get(s).fresh[word] > 0) set += 1 << s;
        }
        return set;
    }

    int known(int set) {
        if (out(set, 0, 4095)) return no(1);
        int was = now.knownSet();
        for (int w = 0; w < 12; w++) now.known[w] = (set & 1 << w) != 0;
        return was;
    }

    int swallow(int place, int spoon, int word) {
        if (out(place, 0, 5) || out(spoon, -1, 7) || out(word, 0, 11)) return no(1);
        int was = ofSwallow(place);
        now.swallows[place] = new int[] {spoon, word};
        return was;
    }

    int ofSwallow(int place) {
        if (out(place, 0, 5)) return no(1);
        return 12 * (now.swallows[place][0] + 1) + now.swallows[place][1];
    }

    int wash(int place, int spoon) {
        if (out(place, 0, 3) || out(spoon, -1, 7)) return no(1);
        int was = ofWash(place);
        now.washes[place] = spoon;
        return was;
    }

    int ofWash(int place) {
        return out(place, 0, 3) ? no(1) : 1 + now.washes[place];
    }

    int spoon(int km, int silver) {
        if (out(km, 0, 69) || out(silver, 0, 99)) return no(1);
        if (now.items.size() == 8) return no(4);
        Item i = new Item();
        i.kind = km / 10;
        i.m = km % 10;
        i.silver = silver;
        now.items.add(i);
        return now.items.size() - 1;
    }

    int ofSpoon(int spoon, int what) {
        if (lacks(spoon) || out(what, 0, 16)) return no(1);
        Item i = now.items.get(spoon);
        int[] first = {i.kind, i.m, i.silver, i.on(), now.rub(i)};
        return what < 5 ? first[what] : i.fresh[what - 5];
    }

    int change(int spoon, int what, int v) {
        if (lacks(spoon) || out(what, 0, 12) || out(v, 0, what == 0 ? 99 : 9)) return no(1);
        Item i = now.items.get(spoon);
        int was = what == 0 ? i.silver : i.fresh[what - 1];
        if (what == 0) i.silver = v;
        else i.fresh[what - 1] = v;
        return was;
    }

    int become(int spoon, int km) {
        if (lacks(spoon) || out(km, 0, 69)) return no(1);
        Item i = now.items.get(spoon);
        int was = i.kind;
        i.kind = km / 10;
        i.m = km % 10;
        return was;
    }

    int as(int spoon, int kind) {
        if (lacks(spoon) || out(kind, 0, 6)) return no(1);
        int k = now.items.get(spoon).kind;
        boolean is = kind == 0 || kind == k || k == kind + 3;
        return is ? now.items.get(spoon).m : no(5);
    }

    int feed(long word, int n) {
        if (out(n, 1, 8)) return no(1);
        if (now.tape.length() + n > 50) return no(4);
        for (int i = 0; i < n; i++) now.tape += (char) (word >> 8 * i & 255);
        return now.tape.length();
    }

    int text(int use) {
        if (out(use, 0, 1)) return no(1);
        String read = now.tape;
        now.tape = "";
        int f = fault(read, use == 0 ? "kws" : "rsn");
        if (f >= 0) return -10 - f;
        now.texts[use] = read;
        return 1;
    }

    int law(int use, int a, int b, int c) {
        return out(use, 0, 1) ? no(1) : now.law(use, a, b, c);
    }

    int hours(int n) {
        if (out(n, 1, 60)) return no(1);
        if (now.hour + n > 9999) return no(3);
        now = now.behind(n);
        return now.knownSet();
    }

    int loose(int n) {
        if (out(n, 1, 40)) return no(1);
        if (now.hour + n > 9999) return no(3);
        for (int i = 0; i < n; i++) {
            int s = now.draw() % 8;
            int w = now.draw() % 12;
            now.swallows[now.hour % 6] = new int[] {s, w};
            now.passOne();
        }
        return now.knownSet();
    }

    int then(int n, int spoon, int what) {
        if (out(n, 0, 60) || lacks(spoon) || out(what, 0, 1)) return no(1);
        Item i = now.behind(n).items.get(spoon);
        return what == 0 ? i.silver : i.on();
    }

    int spreads(int n) {
        return out(n, 0, 60) ? no(1) : now.behind(n).spreads();
    }

    int when(int word) {
        if (out(word, 0, 11)) return no(1);
        for (int n = 0; n <= 60; n++) {
            if (now.behind(n).known[word]) return n;
        }
        return no(2);
    }

    int lasts(int spoon) {
        if (lacks(spoon)) return no(1);
        for (int n = 0; n <= 60; n++) {
            if (now.behind(n).items.get(spoon).silver == 0) return n;
        }
        return no(2);
    }

    int silverFor(int spoon, int n) {
        if (lacks(spoon) || out(n, 0, 60)) return no(1);
        for (int v = 1; v <= 99; v++) {
            World c = now.copy();
            c.items.get(spoon).silver = v;
            if (c.behind(n).items.get(spoon).silver != 0) return v;
        }
        return no(2);
    }

    private static int placeOfLeast(int[] row) {
        int best = 0;
        for (int i = row.length - 1; i >= 0; i--) {
            if (row[i] <= Arrays.stream(row).min().getAsInt()) best = i;
        }
        return best;
    }

    int washFor(int place, int n) {
        if (out(place, 0, 3) || out(n, 0, 60)) return no(1);
        int[] row = new int[9];
        for (int s = 0; s < 9; s++) {
            World c = now.copy();
            c.washes[place] = s - 1;
            row[s] = c.behind(n).spreads();
        }
        return placeOfLeast(row);
    }

    int kindFor(int spoon, int n) {
        if (lacks(spoon) || out(n, 0, 60)) return no(1);
        int[] row = new int[7];
        for (int k = 0; k < 7; k++) {
            World c = now.copy();
            c.items.get(spoon).kind = k;
            row[k] = c.behind(n).spreads();
        }
        return placeOfLeast(row);
    }

    private static int unlike(World from, int[] told) {
        for (int i = 0; i < told.length; i++) {
            if (told[i] != from.behind(i + 1).spreads()) return i;
        }
        return -1;
    }

    int rubbed(int sheet, int spoon, int what) {
        if (out(sheet, 0, 3) || lacks(spoon) || out(what, 0, 1)) return no(1);
        if (bits[sheet] == 0) return no(2);
        List<Integer> fits = new ArrayList<>();
        for (int v = 0; v <= 99; v++) {
            World c = now.copy();
            c.items.get(spoon).silver = v;
            if (unlike(c, sheets[sheet]) < 0) fits.add(v);
        }
        if (what == 0) return fits.size();
        return fits.isEmpty() ? no(2) : fits.get(0);
    }

    int which(int sheet, int spoon) {
        if (out(sheet, 0, 3) || lacks(spoon)) return no(1);
        if (bits[sheet] == 0) return no(2);
        int set = 0;
        for (int k = 0; k <= 6; k++) {
            World c = now.copy();
            c.items.get(spoon).kind = k;
            if (unlike(c, sheets[sheet]) < 0) set += 1 << k;
        }
        return set;
    }

    int washers() {
        int most = 0;
        while (!canShare(new int[now.items.size()], 0, most)) most++;
        return most;
    }

    private boolean canShare(int[] washer, int next, int most) {
        if (next == washer.length) return true;
        for (int c = 1; c <= most; c++) {
            boolean free = true;
            for (int s = 0; s < next; s++) {
                boolean clash = (now.items.get(s).on() & now.items.get(next).on()) != 0;
                free &= washer[s] != c || !clash;
            }
            if (free) {
                washer[next] = c;
                if (canShare(washer, next + 1, most)) return true;
            }
        }
        return false;
    }

    int telling(int words) {
        if (out(words, 0, 4095)) return no(1);
        for (int size = 0; size <= now.items.size(); size++) {
            for (int set = 0; set < 256; set++) {
                int told = 0;
                for (int s = 0; s < now.items.size(); s++) {
                    if ((set & 1 << s) != 0) told |= now.items.get(s).on();
                }
                boolean all = (told & words) == words && set >> now.items.size() == 0;
                if (all && Integer.bitCount(set) == size) return set;
            }
        }
        return no(2);
    }

    int gossip(int n) {
        if (out(n, 0, 60)) return no(1);
        World c = now.behind(n);
        int sum = 0;
        for (int w = 0; w < 12; w++) sum += c.known[w] ? c.weight[w] : 0;
        return sum;
    }

    int much(int spoon) {
        if (lacks(spoon)) return no(1);
        World c = now.copy();
        for (int[] s : c.swallows) s[0] = -1;
        Arrays.fill(c.washes, -1);
        int n = 0;
        while (c.behind(n).items.get(spoon).on() != 0) n++;
        return n;
    }

    int odds(int n, int word, int part) {
        if (out(n, 0, 30) || out(word, 0, 11) || out(part, 0, 1)) return no(1);
        int above = 0;
        for (int w = 0; w < 12; w++) {
            World c = now.copy();
            c.swallows[c.hour % 6][1] = w;
            above += c.behind(n).known[word] ? 1 : 0;
        }
        int[] below = {1, 12, 6, 4, 3, 12, 2, 12, 3, 4, 6, 12, 1};
        return part == 1 ? below[above] : above * below[above] / 12;
    }

    int seed(int v) {
        int was = now.z;
        now.z = v;
        return was;
    }

    int voice(int spoon, int act, int x) {
        if (lacks(spoon) || out(act, 0, 3)) return no(1);
        trace = new ArrayList<>();
        Item i = now.items.get(spoon);
        return body(act, i.kind, i, spoon, x);
    }

    /** The BODY of an act (shines 0, dulls 1, holds 2, tells 3) from a KIND on. */
    private int body(int act, int from, Item i, int n, int x) {
        int[][] bodies = {{10, 11, 12, 13}, {20, 0, 0, 0}, {0, 30, 0, 0}, {0, 0, 40, 0},
            {0, 0, 0, 50}, {0, 60, 0, 0}, {0, 0, 70, 71}};
        int[] above = {-1, 0, 0, 0, 1, 2, 3};
        int k = from;
        while (bodies[k][act] == 0) k = above[k];
        int number = bodies[k][act];
        trace.add(number);
        int up = above[k];
        int own = i.kind;
        int left;
        switch (number) {
            case 10: return x + n;
            case 11: return body(0, own, i, n, x) * 2;
            case 12: return x - i.m;
            case 13: left = body(1, own, i, n, x); return left ^ body(2, own, i, n, x);
            case 20: return body(0, up, i, n, x) * 3;
            case 30: left = body(1, up, i, n, x); return left - body(2, own, i, n, 1);
            case 40: return -body(2, up, i, n, x);
            case 50: left = body(3, up, i, n, x); return left - body(0, own, i, n, 2);
            case 60: return body(1, up, i, n, x + 1);
            case 70: return body(2, up, i, n, x) ^ n;
            default: left = body(1, own, i, n, x); return left - body(3, up, i, n, x);
        }
    }

    int trace(int i) {
        return i < 0 || i >= Math.min(40, trace.size()) ? no(2) : trace.get(i);
    }

    int sheet(int sheet, int b, int n) {
        if (out(sheet, 0, 3) || b != 0 && b != 8 && b != 16 && b != 32) return no(1);
        if (b == 0) {
            bits[sheet] = 0;
            return 1;
        }
        if (n < 0) return no(3);
        if (n > 40) return no(1);
        bits[sheet] = b;
        sheets[sheet] = new int[n];
        return 1;
    }

    int put(int sheet, int i, int v) {
        if (out(sheet, 0, 3)) return no(1);
        if (bits[sheet] == 0) return no(2);
        if (i < 0 || i >= sheets[sheet].length) return no(1);
        sheets[sheet][i] = bits[sheet] == 8 ? (byte) v : bits[sheet] == 16 ? (short) v : v;
        return 1;
    }

    int move(int sheet, int i, int other, int j, int n) {
        if (out(sheet, 0, 3) || out(other, 0, 3)) return no(1);
        if (bits[sheet] == 0 || bits[other] == 0) return no(2);
        if (bits[sheet] != bits[other]) return no(5);
        try {
            System.arraycopy(sheets[sheet], i, sheets[other], j, n);
        } catch (IndexOutOfBoundsException e) {
            return no(1);
        }
        return n;
    }

    int weights(int sheet) {
        if (out(sheet, 0, 3)) return no(1);
        if (bits[sheet] == 0) return no(2);
        int i = 0;
        while (i < 12 && i < sheets[sheet].length && !out(sheets[sheet][i], 0, 9)) {
            now.weight[i] = sheets[sheet][i];
            i++;
        }
        return i;
    }

    int judge(int sheet) {
        if (out(sheet, 0, 3)) return no(1);
        if (bits[sheet] == 0) return no(2);
        for (int i = 0; i < 40; i++) {
            int said = i < sheets[sheet].length ? sheets[sheet][i] : -1000;
            int due = i < now.items.size() ? now.items.get(i).silver : -1000;
            if (said != due) return i;
        }
        return -1;
    }

    int image() {
        image = now.copy();
        return ++images;
    }

    int restore() {
        if (image == null) return no(2);
        now = image.copy();
        return now.hour;
    }

    int tell(int v) {
        if (now.waits.size() == 20) return no(4);
        now.waits.add(v);
        return now.waits.size();
    }

    int check() {
        int[] told = now.waits.stream().mapToInt(Integer::intValue).toArray();
        now.waits.clear();
        return 1 + unlike(now, told);
    }

    int count(int what) {
        if (out(what, 0, 10)) return no(1);
        int silver = 0;
        int on = 0;
        for (Item i : now.items) {
            silver += i.silver;
            on |= i.on();
        }
        int[] row = {now.items.size(), now.hour, now.spreads(), now.knownSet(), silver,
            Arrays.stream(now.weight).sum(), on, now.tape.length(), now.waits.size(),
            Math.min(40, trace.size()), now.z};
        return row[what];
    }

    int told(int k) {
        return out(k, 1, 5) ? no(1) : errors[k];
    }
}
