/** Promises 41 to 46: images, numbers that wait, what is counted and told. */
public final class KeptTest {
    private static final int[] FAR = {Integer.MIN_VALUE, -1000, 1000000, Integer.MAX_VALUE};

    private KeptTest() {
    }

    public static void main(String[] args) {
        image();
        imageKeepsAll();
        imageLeavesOut();
        imageStays();
        tell();
        check();
        count();
        told();
        Due.end();
    }

    private static void image() {
        Due.topic("promises 41, 42");
        SpoonsLast x = new SpoonsLast();
        Due.due("restore()", x.restore(), Due.NONE);
        Due.due("told(2)", x.told(2), 1);
        Due.due("image()", x.image(), 1);
        x.hours(7);
        Due.due("restore()", x.restore(), 0);
        Due.due("count(1)", x.count(1), 0);
        x.hours(5);
        Due.due("image()", x.image(), 2);
        x.hours(9);
        Due.due("restore()", x.restore(), 5);
        Due.due("restore()", x.restore(), 5);
        Due.due("count(1)", x.count(1), 5);
        Due.due("how often is no part of it", x.image(), 3);
        Due.due("told(2)", x.told(2), 1);
    }

    /** An object with something in all that an IMAGE keeps, and the IMAGE of that. */
    private static SpoonsLast imaged() {
        SpoonsLast x = new SpoonsLast();
        for (int s = 0; s < 7; s++) {
            x.spoon(10 * s + s, 10 + s);
            x.change(s, s + 1, s + 2);
        }
        for (int p = 0; p < 6; p++) {
            x.swallow(p, p, p + 3);
        }
        for (int p = 0; p < 4; p++) {
            x.wash(p, p + 2);
        }
        for (int w = 0; w < 12; w++) {
            x.word(w, (w * 5 + 2) % 10);
        }
        x.known(1234);
        x.hours(4);
        Texts.read(x, 0, "k+w-s");
        x.seed(77);
        x.tell(5);
        x.tell(6);
        Texts.feed(x, "r*3+n");
        x.image();
        return x;
    }

    private static void imageKeepsAll() {
        long before = look(imaged());
        SpoonsLast x = imaged();
        change(x);
        Due.due("it is another then", look(x) == before ? 1 : 0, 0);
        x = imaged();
        change(x);
        Due.due("restore()", x.restore(), 4);
        Due.due("all as it was", look(x), before);
        Due.due("the tape's letters", x.text(1), 1);
        Due.due("law(1, 1, 0, 2)", x.law(1, 1, 0, 2), 5);
        Due.due("law(0, 1, 8, 2)", x.law(0, 1, 8, 2), 7);
        Due.due("restore()", x.restore(), 4);
        Due.due("without a TEXT again", x.law(1, 1, 0, 2), 1);
        int tenth = x.spreads(1);
        x.check();
        x.tell(tenth);
        x.image();
        x.tell(99);
        x.restore();
        Due.due("count(8)", x.count(8), 1);
        Due.due("the number that waits", x.check(), 0);
        x.restore();
        x.check();
        x.tell(tenth + 1);
        x.restore();
        Due.due("the number that waits", x.check(), 0);
    }

    private static void change(SpoonsLast x) {
        x.spoon(0, 1);
        x.become(3, 69);
        x.become(4, 12);
        for (int s = 0; s < 7; s++) {
            x.change(s, 0, 99 - s);
            x.change(s, 12 - s, 9);
            x.change(s, s + 1, 1);
        }
        for (int p = 0; p < 6; p++) {
            x.swallow(p, 7 - p, 11 - p);
        }
        for (int p = 0; p < 4; p++) {
            x.wash(p, -1);
        }
        for (int w = 0; w < 12; w++) {
            x.word(w, 1);
        }
        x.loose(3);
        x.known(4);
        x.text(0);
        Texts.feed(x, "s");
        x.text(0);
        Texts.feed(x, "n+9");
        x.text(1);
        Texts.feed(x, "%%%%%%%%%");
        x.check();
        x.tell(1);
    }

    private static long look(SpoonsLast x) {
        long sum = 7;
        for (int s = 0; s < x.count(0); s++) {
            for (int what = 0; what <= 16; what++) {
                sum = sum * 31 + x.ofSpoon(s, what);
            }
        }
        for (int w = 0; w < 12; w++) {
            sum = sum * 31 + x.ofWord(w, 0);
        }
        for (int p = 0; p < 6; p++) {
            sum = sum * 31 + x.ofSwallow(p);
        }
        for (int p = 0; p < 4; p++) {
            sum = sum * 31 + x.ofWash(p);
        }
        for (int what = 0; what <= 8; what++) {
            sum = sum * 31 + x.count(what);
        }
        sum = sum * 31 + x.count(10);
        return sum * 31 + x.law(0, 2, 1, 1) * 100 + x.law(1, 2, 1, 1);
    }

    private static void imageLeavesOut() {
        SpoonsLast x = new SpoonsLast();
        x.spoon(10, 3);
        x.sheet(0, 8, 1);
        x.voice(0, 3, 1);
        x.word(-1, 0);
        x.image();
        x.put(0, 0, 3);
        x.sheet(1, 16, 4);
        x.voice(0, 0, 1);
        x.word(-1, 0);
        x.hours(1);
        Due.due("restore()", x.restore(), 0);
        Due.due("SHEET 0 as it is", x.judge(0), -1);
        Due.due("SHEET 1 as it is", x.put(1, 3, 0), 1);
        Due.due("THE TRACE as it is", x.count(9), 2);
        Due.due("trace(0)", x.trace(0), 20);
        Due.due("told(1) as it is", x.told(1), 2);
        x.sheet(0, 0, 0);
        Due.due("restore()", x.restore(), 0);
        Due.due("SHEET 0 missing yet", x.judge(0), Due.NONE);
    }

    private static void imageStays() {
        SpoonsLast x = new SpoonsLast();
        x.spoon(35, 9);
        x.swallow(0, 0, 9);
        x.image();
        for (int i = 0; i < 3; i++) {
            x.change(0, 0, 50 + i);
            x.change(0, 4, 7);
            x.hours(2);
            x.become(0, 60);
            x.swallow(0, -1, 1);
            x.spreads(60);
            x.check();
            Due.due("restore()", x.restore(), 0);
            Due.due("ofSpoon(0, 2)", x.ofSpoon(0, 2), 9);
            Due.due("ofSpoon(0, 3)", x.ofSpoon(0, 3), 0);
            Due.due("as(0, 3)", x.as(0, 3), 5);
            Due.due("as(0, 6)", x.as(0, 6), Due.KIND);
            Due.due("ofSwallow(0)", x.ofSwallow(0), 21);
        }
    }

    private static void tell() {
        Due.topic("promise 43");
        SpoonsLast x = new SpoonsLast();
        for (int i = 1; i <= 20; i++) {
            Due.due("tell", x.tell(i % 2 == 0 ? Integer.MIN_VALUE : Integer.MAX_VALUE), i);
            Due.due("count(8)", x.count(8), i);
        }
        Due.due("tell(0)", x.tell(0), Due.FULL);
        Due.due("tell(0)", x.tell(0), Due.FULL);
        Due.due("count(8)", x.count(8), 20);
        Due.due("told(4)", x.told(4), 2);
        Due.due("check()", x.check(), 1);
        Due.due("count(8)", x.count(8), 0);
        Due.due("tell(0)", x.tell(0), 1);
    }

    private static void check() {
        Due.topic("promise 44");
        SpoonsLast x = new SpoonsLast();
        x.spoon(0, 99);
        x.swallow(1, 0, 5);
        x.wash(1, 0);
        x.swallow(3, 0, 6);
        x.wash(3, 0);
        int[] due = {0, 1, 1, 2, 2, 2};
        Due.due("check() of none", x.check(), 0);
        for (int wrong = 0; wrong <= due.length; wrong++) {
            for (int i = 0; i < due.length; i++) {
                x.tell(due[i] + (i == wrong ? 1 : 0));
            }
            Due.due("check(), wrong at " + wrong, x.check(), wrong < due.length ? wrong + 1 : 0);
            Due.due("count(8)", x.count(8), 0);
        }
        x.tell(1);
        x.tell(7);
        Due.due("the first", x.check(), 1);
        Due.due("check() again", x.check(), 0);
        Due.due("count(1)", x.count(1), 0);
        Due.due("count(3)", x.count(3), 0);
        Due.due("ofSpoon(0, 2)", x.ofSpoon(0, 2), 99);
        x.tell(-1);
        Due.due("check()", x.check(), 1);
        for (int i = 0; i < 20; i++) {
            x.tell(i == 19 ? 3 : i < 6 ? due[i] : 2);
        }
        Due.due("the 20th", x.check(), 20);
        x.hours(1);
        x.tell(1);
        x.tell(1);
        x.tell(2);
        Due.due("from HOUR 1", x.check(), 0);
        for (int k = 1; k <= 5; k++) {
            Due.due("told(" + k + ")", x.told(k), 0);
        }
    }

    private static void count() {
        Due.topic("promise 45");
        SpoonsLast x = new SpoonsLast();
        x.spoon(10, 40);
        x.spoon(63, 9);
        x.spoon(0, 0);
        x.word(0, 9);
        x.change(0, 1, 4);
        x.change(1, 12, 9);
        x.change(2, 1, 1);
        x.change(2, 3, 2);
        x.known(2050);
        x.tell(9);
        x.tell(9);
        x.tell(9);
        Texts.feed(x, "k+w+s+1+2");
        x.voice(1, 3, 4);
        x.seed(-5);
        int[] due = {3, 0, 2, 2050, 49, 55, 2048 + 5, 9, 3, 9, -5};
        for (int what = 0; what <= 10; what++) {
            Due.due("count(" + what + ")", x.count(what), due[what]);
        }
        Due.due("count(-1)", x.count(-1), Due.BEYOND);
        Due.due("count(11)", x.count(11), Due.BEYOND);
        for (int far : FAR) {
            Due.due("count(" + far + ")", x.count(far), Due.BEYOND);
        }
        Due.due("told(1)", x.told(1), 6);
        x.hours(2);
        Due.due("count(1)", x.count(1), 2);
        Due.due("count(6)", x.count(6), 2049);
        x.known(4095);
        Due.due("count(2)", x.count(2), 12);
        Due.due("count(3)", x.count(3), 4095);
    }

    private static void told() {
        Due.topic("promise 46");
        SpoonsLast x = new SpoonsLast();
        Due.due("told(0)", x.told(0), Due.BEYOND);
        Due.due("told(1)", x.told(1), 1);
        Due.due("told(6)", x.told(6), Due.BEYOND);
        Due.due("told(-1)", x.told(-1), Due.BEYOND);
        for (int far : FAR) {
            Due.due("told(" + far + ")", x.told(far), Due.BEYOND);
        }
        Due.due("told(1)", x.told(1), 7);
        Due.due("told(1)", x.told(1), 7);
        x.as(0, 0);
        x.when(0);
        x.when(1);
        x.spoon(0, 9);
        for (int i = 0; i < 4; i++) {
            x.sheet(0, 8, -1);
        }
        for (int i = 0; i < 25; i++) {
            x.tell(i);
        }
        for (int i = 0; i < 6; i++) {
            x.as(0, 6);
        }
        x.image();
        int[] due = {8, 2, 4, 5, 6};
        for (int k = 1; k <= 5; k++) {
            Due.due("told(" + k + ")", x.told(k), due[k - 1]);
        }
        x.restore();
        x.check();
        for (int k = 1; k <= 5; k++) {
            Due.due("told(" + k + ")", x.told(k), due[k - 1]);
        }
    }
}
