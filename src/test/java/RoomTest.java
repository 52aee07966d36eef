import java.lang.management.ManagementFactory;

/** What calls make: rows are made with the object, and only TEXTS after it. */
public final class RoomTest {
    /** With the calls that furnish it, about as many as an object is used for. */
    private static final long TEXTS = 75;

    private RoomTest() {
    }

    public static void main(String[] args) {
        Due.topic("room");
        var bean = (com.sun.management.ThreadMXBean) ManagementFactory.getThreadMXBean();
        SpoonsLast warm = furnished();
        all(warm, 3);
        text(warm, 3);
        long start = bean.getCurrentThreadAllocatedBytes();
        SpoonsLast x = furnished();
        long made = bean.getCurrentThreadAllocatedBytes() - start;
        Due.due("a furnished object takes below 32 KiB: " + made, made < 32768 ? 1 : 0, 1);
        start = bean.getCurrentThreadAllocatedBytes();
        all(x, 8);
        made = bean.getCurrentThreadAllocatedBytes() - start;
        Due.due("calls make nothing: " + made, made < 4096 ? 1 : 0, 1);
        start = bean.getCurrentThreadAllocatedBytes();
        text(furnished(), TEXTS);
        made = bean.getCurrentThreadAllocatedBytes() - start;
        Due.due("75 TEXTS of 40 bytes take below 160 KiB: " + made, made < 160 * 1024 ? 1 : 0, 1);
        Due.end();
    }

    private static SpoonsLast furnished() {
        SpoonsLast x = new SpoonsLast();
        for (int s = 0; s < 8; s++) {
            x.spoon(10 * (s % 7) + s, 60 + s);
            x.swallow(s % 6, s, s);
            x.wash(s % 4, s);
        }
        x.sheet(0, 8, 20);
        x.sheet(1, 8, 40);
        return x;
    }

    private static void text(SpoonsLast x, long times) {
        for (long i = 0; i < times; i++) {
            for (int n = 0; n < 40; n += 8) {
                x.feed(0x31_2b_31_2b_31_2b_31_2bL >>> (n == 0 ? 8 : 0), n == 0 ? 7 : 8);
            }
            x.text((int) i % 2);
        }
    }

    private static void all(SpoonsLast x, int times) {
        for (int i = 0; i < times; i++) {
            x.word(1, 2);
            x.change(3, 4, 5);
            x.become(3, 44);
            x.hours(1);
            x.loose(1);
            x.then(60, 1, 0);
            x.spreads(60);
            x.when(11);
            x.lasts(4);
            x.silverFor(3, 60);
            x.washFor(3, 60);
            x.kindFor(3, 60);
            x.rubbed(1, 3, 0);
            x.which(1, 3);
            x.washers();
            x.telling(15);
            x.gossip(60);
            x.much(3);
            x.odds(30, 4, 0);
            x.voice(3, 3, 4);
            x.sheet(2, 8, 40);
            x.sheet(3, 8, 40);
            x.move(2, 0, 3, 0, 40);
            x.weights(0);
            x.judge(0);
            x.image();
            x.restore();
            x.tell(1);
            x.check();
            x.count(6);
            x.told(9);
        }
    }
}
