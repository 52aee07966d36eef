import java.util.Arrays;

/** Spoons that keep what was swallowed hard, the washing-up, and one who knows. See README.md. */
public final class SpoonsLast {
    private static final int LOW = -1000000000;
    private static final int BEYOND = LOW - 1;
    private static final int NONE = LOW - 2;
    private static final int STATE = LOW - 3;
    private static final int FULL = LOW - 4;
    private static final int KIND = LOW - 5;
    private static final int ERRORS = 5;

    private static final int WORDS = 12;
    private static final int ALL_WORDS = (1 << WORDS) - 1;
    private static final int MOST_WEIGHT = 9;
    private static final int MOST_SPOONS = 8;
    private static final int KINDS = 7;
    private static final int MOST_KM = 10 * KINDS - 1;
    private static final int MOST_SILVER = 99;
    private static final int MOST_FRESH = 9;
    private static final int MOST_RUB = 20;
    private static final int SWALLOWS = 6;
    private static final int WASHES = 4;
    private static final int MOST_HOUR = 9999;
    private static final int MOST_HOURS = 60;
    private static final int MOST_LOOSE = 40;
    private static final int MOST_ODDS = 30;
    private static final int TAPE = 50;
    private static final int USES = 2;
    private static final int FRESH = 0;
    private static final int RUB = 1;
    private static final int SHEETS = 4;
    private static final int MOST_NUMBERS = 40;
    private static final int MOST_TRACE = 40;
    private static final int MOST_WAITING = 20;

    /** For each KIND the one above it; -1 above SPOON. */
    private static final int[] ABOVE = {-1, 0, 0, 0, 1, 2, 3};

    private final House house;
    private final House thought;
    private final House kept;
    private int images;
    private final Spoon[] kinds;
    private final Voice voice;
    private final Sheet[] sheets;
    private final int[] errors;
    private final int[] fewest;

    public SpoonsLast() {
        kinds = new Spoon[] {new Spoon(), new Fiddle(), new Apostle(), new Salt(),
            new Server(), new Maiden(), new Caddy()};
        house = new House(kinds);
        thought = new House(kinds);
        kept = new House(kinds);
        voice = new Voice();
        sheets = new Sheet[SHEETS];
        for (int i = 0; i < SHEETS; i++) {
            sheets[i] = new Sheet();
        }
        errors = new int[ERRORS + 1];
        fewest = new int[1 << MOST_SPOONS];
    }

    // ---- words, lists

    public int word(int word, int v) {
        if (!isWord(word) || !within(v, 0, MOST_WEIGHT)) {
            return refused(BEYOND);
        }
        int was = house.weight[word];
        house.weight[word] = v;
        return was;
    }

    public int ofWord(int word, int what) {
        if (!isWord(word) || !within(what, 0, 2)) {
            return refused(BEYOND);
        }
        if (what == 0) {
            return house.weight[word];
        }
        return what == 1 ? (house.known >> word) & 1 : house.spoonsWith(word);
    }

    public int known(int set) {
        if (!isSetOfWords(set)) {
            return refused(BEYOND);
        }
        int was = house.known;
        house.known = set;
        return was;
    }

    public int swallow(int place, int spoon, int word) {
        if (!within(place, 0, SWALLOWS - 1) || !mayBeListed(spoon) || !isWord(word)) {
            return refused(BEYOND);
        }
        int was = house.swallowAt(place);
        house.swallowSpoon[place] = spoon;
        house.swallowWord[place] = word;
        return was;
    }

    public int ofSwallow(int place) {
        return within(place, 0, SWALLOWS - 1) ? house.swallowAt(place) : refused(BEYOND);
    }

    public int wash(int place, int spoon) {
        if (!within(place, 0, WASHES - 1) || !mayBeListed(spoon)) {
            return refused(BEYOND);
        }
        int was = house.washSpoon[place] + 1;
        house.washSpoon[place] = spoon;
        return was;
    }

    public int ofWash(int place) {
        return within(place, 0, WASHES - 1) ? house.washSpoon[place] + 1 : refused(BEYOND);
    }

    // ---- spoons

    public int spoon(int km, int silver) {
        if (!within(km, 0, MOST_KM) || !within(silver, 0, MOST_SILVER)) {
            return refused(BEYOND);
        }
        if (house.spoons == MOST_SPOONS) {
            return refused(FULL);
        }
        int spoon = house.spoons;
        house.spoons++;
        house.kind[spoon] = km / 10;
        house.mark[spoon] = km % 10;
        house.silver[spoon] = silver;
        house.fresh[spoon] = 0;
        return spoon;
    }

    public int ofSpoon(int spoon, int what) {
        if (!isSpoon(spoon) || !within(what, 0, 4 + WORDS)) {
            return refused(BEYOND);
        }
        switch (what) {
            case 0:
                return house.kind[spoon];
            case 1:
                return house.mark[spoon];
            case 2:
                return house.silver[spoon];
            case 3:
                return house.wordsOn(spoon);
            case 4:
                return house.rubOf(spoon);
            default:
                return House.freshIn(house.fresh[spoon], what - 5);
        }
    }

    public int change(int spoon, int what, int v) {
        if (!isSpoon(spoon) || !within(what, 0, WORDS)
                || !within(v, 0, what == 0 ? MOST_SILVER : MOST_FRESH)) {
            return refused(BEYOND);
        }
        if (what == 0) {
            int was = house.silver[spoon];
            house.silver[spoon] = v;
            return was;
        }
        long row = house.fresh[spoon];
        house.fresh[spoon] = House.withFresh(row, what - 1, v);
        return House.freshIn(row, what - 1);
    }

    public int become(int spoon, int km) {
        if (!isSpoon(spoon) || !within(km, 0, MOST_KM)) {
            return refused(BEYOND);
        }
        int was = house.kind[spoon];
        house.kind[spoon] = km / 10;
        house.mark[spoon] = km % 10;
        return was;
    }

    public int as(int spoon, int kind) {
        if (!isSpoon(spoon) || !within(kind, 0, KINDS - 1)) {
            return refused(BEYOND);
        }
        int up = house.kind[spoon];
        for (int i = 0; i < KINDS && up >= 0; i++) {
            if (up == kind) {
                return house.mark[spoon];
            }
            up = ABOVE[up];
        }
        return refused(KIND);
    }

    // ---- texts

    public int feed(long word, int n) {
        if (!within(n, 1, 8)) {
            return refused(BEYOND);
        }
        if (house.tapeCount > TAPE - n) {
            return refused(FULL);
        }
        for (int i = 0; i < n; i++) {
            house.tape[house.tapeCount] = (int) (word >>> (8 * i)) & 255;
            house.tapeCount++;
        }
        return house.tapeCount;
    }

    public int text(int use) {
        if (!isUse(use)) {
            return refused(BEYOND);
        }
        Text read = new Text(house.tape, house.tapeCount, use == FRESH ? "kws" : "rsn");
        house.tapeCount = 0;
        if (read.fault >= 0) {
            return -10 - read.fault;
        }
        house.texts[use] = read;
        return 1;
    }

    public int law(int use, int a, int b, int c) {
        return isUse(use) ? house.given(use, a, b, c) : refused(BEYOND);
    }

    // ---- hours

    public int hours(int n) {
        if (!within(n, 1, MOST_HOURS)) {
            return refused(BEYOND);
        }
        if (house.hour > MOST_HOUR - n) {
            return refused(STATE);
        }
        house.passHours(n);
        return house.known;
    }

    public int loose(int n) {
        if (!within(n, 1, MOST_LOOSE)) {
            return refused(BEYOND);
        }
        if (house.hour > MOST_HOUR - n) {
            return refused(STATE);
        }
        for (int i = 0; i < n; i++) {
            house.drawSwallow();
            house.passHours(1);
        }
        return house.known;
    }

    // ---- what would be

    public int then(int n, int spoon, int what) {
        if (!isBehind(n) || !isSpoon(spoon) || !within(what, 0, 1)) {
            return refused(BEYOND);
        }
        thought.follow(house);
        thought.passHours(n);
        return what == 0 ? thought.silver[spoon] : thought.wordsOn(spoon);
    }

    public int spreads(int n) {
        if (!isBehind(n)) {
            return refused(BEYOND);
        }
        thought.follow(house);
        thought.passHours(n);
        return Integer.bitCount(thought.known);
    }

    public int when(int word) {
        if (!isWord(word)) {
            return refused(BEYOND);
        }
        thought.follow(house);
        for (int n = 0; n <= MOST_HOURS; n++) {
            if (thought.knows(word)) {
                return n;
            }
            thought.passHours(1);
        }
        return refused(NONE);
    }

    public int lasts(int spoon) {
        if (!isSpoon(spoon)) {
            return refused(BEYOND);
        }
        thought.follow(house);
        for (int n = 0; n <= MOST_HOURS; n++) {
            if (thought.silver[spoon] == 0) {
                return n;
            }
            thought.passHours(1);
        }
        return refused(NONE);
    }

    public int silverFor(int spoon, int n) {
        if (!isSpoon(spoon) || !isBehind(n)) {
            return refused(BEYOND);
        }
        for (int silver = 1; silver <= MOST_SILVER; silver++) {
            thought.follow(house);
            thought.silver[spoon] = silver;
            thought.passHours(n);
            if (thought.silver[spoon] > 0) {
                return silver;
            }
        }
        return refused(NONE);
    }

    public int washFor(int place, int n) {
        if (!within(place, 0, WASHES - 1) || !isBehind(n)) {
            return refused(BEYOND);
        }
        int best = -1;
        int least = WORDS + 1;
        for (int spoon = -1; spoon < MOST_SPOONS; spoon++) {
            thought.follow(house);
            thought.washSpoon[place] = spoon;
            thought.passHours(n);
            if (Integer.bitCount(thought.known) < least) {
                least = Integer.bitCount(thought.known);
                best = spoon;
            }
        }
        return best + 1;
    }

    public int kindFor(int spoon, int n) {
        if (!isSpoon(spoon) || !isBehind(n)) {
            return refused(BEYOND);
        }
        int best = 0;
        int least = WORDS + 1;
        for (int kind = 0; kind < KINDS; kind++) {
            thought.follow(house);
            thought.kind[spoon] = kind;
            thought.passHours(n);
            if (Integer.bitCount(thought.known) < least) {
                least = Integer.bitCount(thought.known);
                best = kind;
            }
        }
        return best;
    }

    public int rubbed(int sheet, int spoon, int what) {
        if (!isSheet(sheet) || !isSpoon(spoon) || !within(what, 0, 1)) {
            return refused(BEYOND);
        }
        Sheet told = sheets[sheet];
        if (told.bits == 0) {
            return refused(NONE);
        }
        int many = 0;
        int first = -1;
        for (int silver = 0; silver <= MOST_SILVER; silver++) {
            thought.follow(house);
            thought.silver[spoon] = silver;
            if (thought.unlikeSpreads(told.numbers, told.length) < 0) {
                many++;
                first = first < 0 ? silver : first;
            }
        }
        if (what == 0) {
            return many;
        }
        return many == 0 ? refused(NONE) : first;
    }

    public int which(int sheet, int spoon) {
        if (!isSheet(sheet) || !isSpoon(spoon)) {
            return refused(BEYOND);
        }
        Sheet told = sheets[sheet];
        if (told.bits == 0) {
            return refused(NONE);
        }
        int set = 0;
        for (int kind = 0; kind < KINDS; kind++) {
            thought.follow(house);
            thought.kind[spoon] = kind;
            if (thought.unlikeSpreads(told.numbers, told.length) < 0) {
                set |= 1 << kind;
            }
        }
        return set;
    }

    public int washers() {
        int all = (1 << house.spoons) - 1;
        for (int set = 1; set <= all; set++) {
            fewest[set] = fewestSetsOf(set);
        }
        return fewest[all];
    }

    public int telling(int words) {
        if (!isSetOfWords(words)) {
            return refused(BEYOND);
        }
        int best = -1;
        int least = MOST_SPOONS + 1;
        for (int set = 0; set < 1 << house.spoons; set++) {
            if (Integer.bitCount(set) < least && (words & ~house.wordsOnAny(set)) == 0) {
                least = Integer.bitCount(set);
                best = set;
            }
        }
        return best < 0 ? refused(NONE) : best;
    }

    public int gossip(int n) {
        if (!isBehind(n)) {
            return refused(BEYOND);
        }
        thought.follow(house);
        thought.passHours(n);
        return thought.weightOf(thought.known);
    }

    public int much(int spoon) {
        if (!isSpoon(spoon)) {
            return refused(BEYOND);
        }
        int most = 0;
        for (int word = 0; word < WORDS; word++) {
            most = Math.max(most, House.freshIn(house.fresh[spoon], word));
        }
        return most;
    }

    public int odds(int n, int word, int part) {
        if (!within(n, 0, MOST_ODDS) || !isWord(word) || !within(part, 0, 1)) {
            return refused(BEYOND);
        }
        int many = 0;
        for (int swallowed = 0; swallowed < WORDS; swallowed++) {
            thought.follow(house);
            thought.swallowWord[thought.swallowPlace()] = swallowed;
            thought.passHours(n);
            if (thought.knows(word)) {
                many++;
            }
        }
        int common = commonPart(many, WORDS);
        return (part == 0 ? many : WORDS) / common;
    }

    // ---- draws, voices, sheets, images, what is told

    public int seed(int v) {
        int was = house.z;
        house.z = v;
        return was;
    }

    public int voice(int spoon, int act, int x) {
        if (!isSpoon(spoon) || !within(act, 0, 3)) {
            return refused(BEYOND);
        }
        voice.of(spoon, house.mark[spoon]);
        Spoon kind = kinds[house.kind[spoon]];
        switch (act) {
            case 0:
                return kind.shines(voice, x);
            case 1:
                return kind.dulls(voice, x);
            case 2:
                return kind.holds(voice, x);
            default:
                return kind.tells(voice, x);
        }
    }

    public int trace(int i) {
        return within(i, 0, voice.count - 1) ? voice.bodies[i] : refused(NONE);
    }

    public int sheet(int sheet, int bits, int n) {
        if (!isSheet(sheet) || (bits != 0 && bits != 8 && bits != 16 && bits != 32)) {
            return refused(BEYOND);
        }
        if (bits != 0 && n < 0) {
            return refused(STATE);
        }
        if (bits != 0 && n > MOST_NUMBERS) {
            return refused(BEYOND);
        }
        sheets[sheet].begin(bits, bits == 0 ? 0 : n);
        return 1;
    }

    public int put(int sheet, int i, int v) {
        if (!isSheet(sheet)) {
            return refused(BEYOND);
        }
        Sheet to = sheets[sheet];
        if (to.bits == 0) {
            return refused(NONE);
        }
        if (!to.hasStanding(i, 1)) {
            return refused(BEYOND);
        }
        to.numbers[i] = to.lowestBits(v);
        return 1;
    }

    public int move(int sheet, int i, int other, int j, int n) {
        if (!isSheet(sheet) || !isSheet(other)) {
            return refused(BEYOND);
        }
        Sheet from = sheets[sheet];
        Sheet to = sheets[other];
        if (from.bits == 0 || to.bits == 0) {
            return refused(NONE);
        }
        if (from.bits != to.bits) {
            return refused(KIND);
        }
        if (!from.hasStanding(i, n) || !to.hasStanding(j, n)) {
            return refused(BEYOND);
        }
        System.arraycopy(from.numbers, i, to.numbers, j, n);
        return n;
    }

    public int weights(int sheet) {
        if (!isSheet(sheet)) {
            return refused(BEYOND);
        }
        Sheet from = sheets[sheet];
        if (from.bits == 0) {
            return refused(NONE);
        }
        int most = Math.min(from.length, WORDS);
        for (int i = 0; i < most; i++) {
            if (!within(from.numbers[i], 0, MOST_WEIGHT)) {
                return i;
            }
            house.weight[i] = from.numbers[i];
        }
        return most;
    }

    public int judge(int sheet) {
        if (!isSheet(sheet)) {
            return refused(BEYOND);
        }
        Sheet said = sheets[sheet];
        if (said.bits == 0) {
            return refused(NONE);
        }
        int both = Math.min(said.length, house.spoons);
        for (int i = 0; i < both; i++) {
            if (said.numbers[i] != house.silver[i]) {
                return i;
            }
        }
        return said.length == house.spoons ? -1 : both;
    }

    public int image() {
        kept.keep(house);
        images++;
        return images;
    }

    public int restore() {
        if (images == 0) {
            return refused(NONE);
        }
        house.keep(kept);
        return house.hour;
    }

    public int tell(int v) {
        if (house.waitingCount == MOST_WAITING) {
            return refused(FULL);
        }
        house.waiting[house.waitingCount] = v;
        house.waitingCount++;
        return house.waitingCount;
    }

    public int check() {
        thought.follow(house);
        int unlike = thought.unlikeSpreads(house.waiting, house.waitingCount);
        house.waitingCount = 0;
        return unlike + 1;
    }

    public int count(int what) {
        switch (what) {
            case 0:
                return house.spoons;
            case 1:
                return house.hour;
            case 2:
                return Integer.bitCount(house.known);
            case 3:
                return house.known;
            case 4:
                return house.allSilver();
            case 5:
                return house.weightOf(ALL_WORDS);
            case 6:
                return house.wordsOnAny((1 << house.spoons) - 1);
            case 7:
                return house.tapeCount;
            case 8:
                return house.waitingCount;
            case 9:
                return voice.count;
            case 10:
                return house.z;
            default:
                return refused(BEYOND);
        }
    }

    public int told(int k) {
        return within(k, 1, ERRORS) ? errors[k] : refused(BEYOND);
    }

    private int refused(int error) {
        errors[LOW - error]++;
        return error;
    }

    private static boolean within(int v, int least, int most) {
        return v >= least && v <= most;
    }

    private static boolean isWord(int word) {
        return within(word, 0, WORDS - 1);
    }

    private static boolean isSetOfWords(int set) {
        return within(set, 0, ALL_WORDS);
    }

    private static boolean isUse(int use) {
        return within(use, 0, USES - 1);
    }

    private static boolean isSheet(int sheet) {
        return within(sheet, 0, SHEETS - 1);
    }

    private static boolean isBehind(int n) {
        return within(n, 0, MOST_HOURS);
    }

    /** Lists may name a SPOON that is not there yet. */
    private static boolean mayBeListed(int spoon) {
        return within(spoon, -1, MOST_SPOONS - 1);
    }

    private boolean isSpoon(int spoon) {
        return within(spoon, 0, house.spoons - 1);
    }

    /** Asked for the sets in rising order, so that those of each part of the set are in the row. */
    private int fewestSetsOf(int set) {
        if (!house.clashes(set)) {
            return 1;
        }
        int least = MOST_SPOONS;
        for (int part = 1; part < set; part++) {
            if ((part & ~set) == 0) {
                least = Math.min(least, fewest[part] + fewest[set ^ part]);
            }
        }
        return least;
    }

    /** The greatest number that divides both, for lowest terms; 0 is divided by all. */
    private static int commonPart(int some, int most) {
        for (int d = most; d > 1; d--) {
            if (some % d == 0 && most % d == 0) {
                return d;
            }
        }
        return 1;
    }

    /** What an IMAGE keeps: words, lists, spoons, texts, draws, what waits; and how an HOUR goes. */
    private static final class House {
        /** How FRESH the 12 WORDS are on a SPOON stands in one long, 4 bits each: hours pass fast. */
        static final int BITS = 4;
        static final long EACH_LOWEST = 0x111111111111L;
        static final long EACH_HALF = 0x777777777777L;

        final Spoon[] kinds;
        final int[] weight = new int[WORDS];
        int known;
        int hour;
        final int[] swallowSpoon = new int[SWALLOWS];
        final int[] swallowWord = new int[SWALLOWS];
        final int[] washSpoon = new int[WASHES];
        int spoons;
        final int[] kind = new int[MOST_SPOONS];
        /** The document's m. */
        final int[] mark = new int[MOST_SPOONS];
        final int[] silver = new int[MOST_SPOONS];
        final long[] fresh = new long[MOST_SPOONS];
        final Text[] texts = new Text[USES];
        final int[] tape = new int[TAPE];
        int tapeCount;
        int z = 1;
        final int[] waiting = new int[MOST_WAITING];
        int waitingCount;

        House(Spoon[] kinds) {
            this.kinds = kinds;
            for (int word = 0; word < WORDS; word++) {
                weight[word] = word % 10;
            }
            Arrays.fill(swallowSpoon, -1);
            Arrays.fill(washSpoon, -1);
        }

        /** Takes over what HOURS need; a TEXT never changes once read, so both may have it. */
        void follow(House other) {
            System.arraycopy(other.weight, 0, weight, 0, WORDS);
            known = other.known;
            hour = other.hour;
            System.arraycopy(other.swallowSpoon, 0, swallowSpoon, 0, SWALLOWS);
            System.arraycopy(other.swallowWord, 0, swallowWord, 0, SWALLOWS);
            System.arraycopy(other.washSpoon, 0, washSpoon, 0, WASHES);
            spoons = other.spoons;
            System.arraycopy(other.kind, 0, kind, 0, MOST_SPOONS);
            System.arraycopy(other.mark, 0, mark, 0, MOST_SPOONS);
            System.arraycopy(other.silver, 0, silver, 0, MOST_SPOONS);
            System.arraycopy(other.fresh, 0, fresh, 0, MOST_SPOONS);
            texts[FRESH] = other.texts[FRESH];
            texts[RUB] = other.texts[RUB];
        }

        void keep(House other) {
            follow(other);
            System.arraycopy(other.tape, 0, tape, 0, TAPE);
            tapeCount = other.tapeCount;
            z = other.z;
            System.arraycopy(other.waiting, 0, waiting, 0, MOST_WAITING);
            waitingCount = other.waitingCount;
        }

        void passHours(int n) {
            for (int i = 0; i < n; i++) {
                swallowNow();
                washNow();
                for (int spoon = 0; spoon < spoons; spoon++) {
                    fresh[spoon] = aged(fresh[spoon]);
                }
                hour++;
            }
        }

        private void swallowNow() {
            int place = swallowPlace();
            int spoon = swallowSpoon[place];
            if (!isWhole(spoon)) {
                return;
            }
            int word = swallowWord[place];
            int stays = kinds[kind[spoon]].stays(mark[spoon], weight[word], silver[spoon]);
            int given = given(FRESH, stays, weight[word], silver[spoon]);
            if (given > freshIn(fresh[spoon], word)) {
                fresh[spoon] = withFresh(fresh[spoon], word, given);
            }
        }

        private void washNow() {
            int spoon = washSpoon[Math.floorMod(hour, WASHES)];
            if (!isWhole(spoon)) {
                return;
            }
            int rub = rubOf(spoon);
            known |= freshAtLeast(fresh[spoon], kinds[kind[spoon]].reads(mark[spoon]));
            silver[spoon] = Math.max(0, silver[spoon] - rub);
            if (silver[spoon] == 0) {
                known |= wordsOn(spoon);
                fresh[spoon] = 0;
            } else {
                fresh[spoon] = halved(fresh[spoon]);
            }
        }

        void drawSwallow() {
            int place = swallowPlace();
            swallowSpoon[place] = draw() % MOST_SPOONS;
            swallowWord[place] = draw() % WORDS;
        }

        private int draw() {
            z = z * 1103515245 + 12345;
            return z >>> 8;
        }

        /** What a USE gives, held, without a TEXT too: how FRESH a WORD is never leaves 0 to 9. */
        int given(int use, int a, int b, int c) {
            Text text = texts[use];
            int free = text == null ? a : text.workOut(a, b, c);
            return Math.max(0, Math.min(free, use == FRESH ? MOST_FRESH : MOST_RUB));
        }

        int rubOf(int spoon) {
            int on = Integer.bitCount(wordsOn(spoon));
            return given(RUB, kinds[kind[spoon]].wears(on), silver[spoon], on);
        }

        /** The first number, from 0, that is not SPREADS by 1, 2, ..; -1: all are. Hours pass. */
        int unlikeSpreads(int[] numbers, int length) {
            for (int i = 0; i < length; i++) {
                passHours(1);
                if (numbers[i] != Integer.bitCount(known)) {
                    return i;
                }
            }
            return -1;
        }

        int swallowPlace() {
            return Math.floorMod(hour, SWALLOWS);
        }

        int swallowAt(int place) {
            return WORDS * (swallowSpoon[place] + 1) + swallowWord[place];
        }

        boolean knows(int word) {
            return ((known >> word) & 1) == 1;
        }

        /** There is that SPOON, and it isn't THROUGH. */
        private boolean isWhole(int spoon) {
            return within(spoon, 0, spoons - 1) && silver[spoon] > 0;
        }

        int wordsOn(int spoon) {
            return freshAtLeast(fresh[spoon], 1);
        }

        int wordsOnAny(int set) {
            int words = 0;
            for (int spoon = 0; spoon < spoons; spoon++) {
                if (((set >> spoon) & 1) == 1) {
                    words |= wordsOn(spoon);
                }
            }
            return words;
        }

        int spoonsWith(int word) {
            int set = 0;
            for (int spoon = 0; spoon < spoons; spoon++) {
                if (freshIn(fresh[spoon], word) > 0) {
                    set |= 1 << spoon;
                }
            }
            return set;
        }

        boolean clashes(int set) {
            int before = 0;
            for (int spoon = 0; spoon < spoons; spoon++) {
                if (((set >> spoon) & 1) == 1) {
                    int words = wordsOn(spoon);
                    if ((before & words) != 0) {
                        return true;
                    }
                    before |= words;
                }
            }
            return false;
        }

        int weightOf(int words) {
            int sum = 0;
            for (int word = 0; word < WORDS; word++) {
                if (((words >> word) & 1) == 1) {
                    sum += weight[word];
                }
            }
            return sum;
        }

        int allSilver() {
            int sum = 0;
            for (int spoon = 0; spoon < spoons; spoon++) {
                sum += silver[spoon];
            }
            return sum;
        }

        static int freshIn(long row, int word) {
            return (int) (row >>> (BITS * word)) & 15;
        }

        static long withFresh(long row, int word, int v) {
            return (row & ~(15L << (BITS * word))) | ((long) v << (BITS * word));
        }

        private static int freshAtLeast(long row, int least) {
            int words = 0;
            if (row != 0) {
                for (int word = 0; word < WORDS; word++) {
                    if (freshIn(row, word) >= least) {
                        words |= 1 << word;
                    }
                }
            }
            return words;
        }

        private static long halved(long row) {
            return (row >>> 1) & EACH_HALF;
        }

        /** One less for each that is above 0, which is where any of its four bits is set. */
        private static long aged(long row) {
            long any = row | (row >>> 1);
            any |= any >>> 2;
            return row - (any & EACH_LOWEST);
        }
    }

    /** A TEXT: read once, as it is made, into signs that stand behind what they join. */
    private static final class Text {
        static final int MOST_OPEN = 5;
        static final int MOST_DIGITS = 4;
        /** Codes below are numbers; NAME and its place; SIGN and its byte. */
        static final int NAME = 10000;
        static final int SIGN = 20000;

        private final int[] bytes;
        private final String names;
        private int at;
        private final int[] codes;
        private int length;
        private final int[] stack;
        /** Where no TEXT goes on; -1: it is one. */
        int fault = -1;

        Text(int[] tape, int count, String names) {
            bytes = Arrays.copyOf(tape, count);
            this.names = names;
            codes = new int[count];
            stack = new int[count];
            readAll(0);
            if (fault < 0 && at < count) {
                fault = at;
            }
        }

        /** T; open is how many of ! and ( are. */
        private void readAll(int open) {
            readBoth(open);
            for (int i = 0; i < TAPE && sees("|"); i++) {
                int sign = take();
                readBoth(open);
                write(SIGN + sign);
            }
        }

        /** A. */
        private void readBoth(int open) {
            readCompared(open);
            for (int i = 0; i < TAPE && sees("&"); i++) {
                int sign = take();
                readCompared(open);
                write(SIGN + sign);
            }
        }

        /** B. */
        private void readCompared(int open) {
            readSum(open);
            if (sees("<=>")) {
                int sign = take();
                readSum(open);
                write(SIGN + sign);
            }
        }

        /** S. */
        private void readSum(int open) {
            readProduct(open);
            for (int i = 0; i < TAPE && sees("+-"); i++) {
                int sign = take();
                readProduct(open);
                write(SIGN + sign);
            }
        }

        /** P. */
        private void readProduct(int open) {
            readOne(open);
            for (int i = 0; i < TAPE && sees("*/%"); i++) {
                int sign = take();
                readOne(open);
                write(SIGN + sign);
            }
        }

        /** Q. */
        private void readOne(int open) {
            if (sees("0123456789")) {
                readNumber();
            } else if (sees(names)) {
                write(NAME + names.indexOf((char) take()));
            } else if (open < MOST_OPEN && sees("!")) {
                int sign = take();
                readOne(open + 1);
                write(SIGN + sign);
            } else if (open < MOST_OPEN && sees("(")) {
                take();
                readAll(open + 1);
                if (sees(")")) {
                    take();
                } else {
                    stopHere();
                }
            } else {
                stopHere();
            }
        }

        private void readNumber() {
            int number = 0;
            for (int i = 0; i < MOST_DIGITS && sees("0123456789"); i++) {
                number = number * 10 + take() - '0';
            }
            write(number);
        }

        /** The first FAULT is the one that counts; nothing is seen behind it. */
        private void stopHere() {
            if (fault < 0) {
                fault = at;
            }
        }

        private boolean sees(String signs) {
            return fault < 0 && at < bytes.length && signs.indexOf((char) bytes[at]) >= 0;
        }

        /** The byte that was just seen. */
        private int take() {
            int sign = bytes[at];
            at++;
            return sign;
        }

        /** Each code is of a byte of its own; what would be written behind a FAULT is left out. */
        private void write(int code) {
            if (fault < 0) {
                codes[length] = code;
                length++;
            }
        }

        /** Of a TEXT without a FAULT, whose signs each find on the stack what they join. */
        int workOut(int a, int b, int c) {
            int top = 0;
            for (int i = 0; i < length; i++) {
                int code = codes[i];
                if (code < NAME) {
                    stack[top] = code;
                    top++;
                } else if (code < SIGN) {
                    stack[top] = code == NAME ? a : code == NAME + 1 ? b : c;
                    top++;
                } else if (code == SIGN + '!') {
                    stack[top - 1] = stack[top - 1] == 0 ? 1 : 0;
                } else {
                    top--;
                    stack[top - 1] = joined(code - SIGN, stack[top - 1], stack[top]);
                }
            }
            return stack[0];
        }

        private static int joined(int sign, int left, int right) {
            switch (sign) {
                case '|':
                    return left != 0 || right != 0 ? 1 : 0;
                case '&':
                    return left != 0 && right != 0 ? 1 : 0;
                case '<':
                    return left < right ? 1 : 0;
                case '=':
                    return left == right ? 1 : 0;
                case '>':
                    return left > right ? 1 : 0;
                case '+':
                    return left + right;
                case '-':
                    return left - right;
                case '*':
                    return left * right;
                case '/':
                    return right == 0 ? 0 : left / right;
                default:
                    return right == 0 ? 0 : left % right;
            }
        }
    }

    private static final class Sheet {
        /** 0: it is missing. */
        int bits;
        int length;
        final int[] numbers = new int[MOST_NUMBERS];

        void begin(int newBits, int newLength) {
            bits = newBits;
            length = newLength;
            Arrays.fill(numbers, 0);
        }

        boolean hasStanding(int from, int n) {
            return n >= 0 && n <= length && from >= 0 && from <= length - n;
        }

        /** The numbers are never told, only likened to small ones, so without a sign will do. */
        int lowestBits(int v) {
            return bits == 32 ? v : v & ((1 << bits) - 1);
        }
    }

    /** Whose VOICE is heard, and THE TRACE. */
    private static final class Voice {
        int spoon;
        int mark;
        int count;
        final int[] bodies = new int[MOST_TRACE];

        void of(int newSpoon, int newMark) {
            spoon = newSpoon;
            mark = newMark;
            count = 0;
        }

        void begins(int body) {
            if (count < MOST_TRACE) {
                bodies[count] = body;
                count++;
            }
        }
    }

    /** What a KIND does (mark is m); this one is KIND SPOON, and the other KINDS are under it. */
    private static class Spoon {
        int stays(int mark, int weight, int silver) {
            return 3;
        }

        int reads(int mark) {
            return 3;
        }

        int wears(int on) {
            return 1;
        }

        int shines(Voice voice, int x) {
            voice.begins(10);
            return x + voice.spoon;
        }

        int dulls(Voice voice, int x) {
            voice.begins(11);
            return shines(voice, x) * 2;
        }

        int holds(Voice voice, int x) {
            voice.begins(12);
            return x - voice.mark;
        }

        int tells(Voice voice, int x) {
            voice.begins(13);
            return dulls(voice, x) ^ holds(voice, x);
        }
    }

    private static class Fiddle extends Spoon {
        int stays(int mark, int weight, int silver) {
            return super.stays(mark, weight, silver) + weight / 2;
        }

        int reads(int mark) {
            return 2;
        }

        int wears(int on) {
            return super.wears(on) + 1;
        }

        int shines(Voice voice, int x) {
            voice.begins(20);
            return super.shines(voice, x) * 3;
        }
    }

    private static class Apostle extends Spoon {
        int reads(int mark) {
            return 5;
        }

        int dulls(Voice voice, int x) {
            voice.begins(30);
            return super.dulls(voice, x) - holds(voice, 1);
        }
    }

    private static class Salt extends Spoon {
        int stays(int mark, int weight, int silver) {
            return weight;
        }

        int wears(int on) {
            return 3;
        }

        int holds(Voice voice, int x) {
            voice.begins(40);
            return -super.holds(voice, x);
        }
    }

    private static final class Server extends Fiddle {
        int stays(int mark, int weight, int silver) {
            return super.stays(mark, weight, silver) * 2;
        }

        int reads(int mark) {
            return mark > 4 ? 1 : super.reads(mark);
        }

        int tells(Voice voice, int x) {
            voice.begins(50);
            return super.tells(voice, x) - shines(voice, 2);
        }
    }

    private static final class Maiden extends Apostle {
        int stays(int mark, int weight, int silver) {
            return super.stays(mark, weight, silver) + mark / 3;
        }

        int wears(int on) {
            return on == 0 ? 0 : super.wears(on);
        }

        int dulls(Voice voice, int x) {
            voice.begins(60);
            return super.dulls(voice, x + 1);
        }
    }

    private static final class Caddy extends Salt {
        int stays(int mark, int weight, int silver) {
            return silver < 10 ? 9 : super.stays(mark, weight, silver);
        }

        int reads(int mark) {
            return 9;
        }

        int wears(int on) {
            return super.wears(on) + on;
        }

        int holds(Voice voice, int x) {
            voice.begins(70);
            return super.holds(voice, x) ^ voice.spoon;
        }

        int tells(Voice voice, int x) {
            voice.begins(71);
            return dulls(voice, x) - super.tells(voice, x);
        }
    }
}
