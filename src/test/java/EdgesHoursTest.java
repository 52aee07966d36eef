/** Edges of promises 17 and 18: hours, and hours by draws. */
public final class EdgesHoursTest {
    private EdgesHoursTest() {
    }

    public static void main(String[] args) {
        hours();
        hoursState();
        loose();
        looseState();
        Due.end();
    }

    private static void hours() {
        Sentence.of("Promise 17", "n (1 to 60) HOURS: KNOWN then.");
        new Run().due(0, "hours", 1).due(1, "count", 1).due(0, "hours", 60).due(61, "count", 1);
        new Run().make("known", 4095).due(4095, "hours", 1).due(4095, "hours", 60);
        // What the last of the HOURS tells is told.
        new Run().make("spoon", 0, 9).make("change", 0, 1, 9).make("wash", 0, 0).due(1, "hours", 1);
        Run r = new Run().make("spoon", 20, 15).make("swallow", 5, 0, 3).make("wash", 3, 0).due(8, "hours", 60);
        r.due(0, "ofSpoon", 0, 2);
        r = new Run().make("spoon", 20, 15).make("swallow", 5, 0, 3).make("wash", 3, 0).due(0, "hours", 59);
        r.due(1, "ofSpoon", 0, 2).due(8, "hours", 1);
        Sentence.of("Promise 17", "BEYOND.");
        Refused.outside("hours", 0, 1, 60, 1);
        Refused.outside(Scene.LATE, "hours", 0, 1, 60, 1);
    }

    private static void hoursState() {
        Sentence.of("Promise 17", "STATE: HOUR would be above 9999.");
        Run r = new Run().pass(9900).make("image").pass(39).due(0, "hours", 60).due(9999, "count", 1);
        r.make("restore").pass(40).due(Due.STATE, "hours", 60).due(9940, "count", 1).due(0, "hours", 59);
        r.due(9999, "count", 1).due(Due.STATE, "hours", 1).due(Due.STATE, "hours", 60).due(9999, "count", 1);
        r.make("restore").due(0, "hours", 60).due(Due.STATE, "hours", 40).due(0, "hours", 39).due(4, "told", 3);
        Refused.in(Scene.LATE, Due.STATE, "hours", 1);
        Refused.in(Scene.LATE, Due.STATE, "hours", 60);
    }

    private static void loose() {
        Sentence.of("Promise 18", "n (1 to 40) HOURS by draws: likewise.");
        new Run().due(0, "loose", 1).due(1, "count", 1).due(0, "loose", 40).due(41, "count", 1);
        new Run().make("known", 4095).due(4095, "loose", 1).due(4095, "loose", 40);
        // 40 at once are 40 one by one.
        Run many = Scene.MIDDLE.make();
        Run one = Scene.MIDDLE.make();
        int last = 0;
        for (int i = 0; i < 40; i++) {
            last = one.call("loose", 1);
        }
        many.due(last, "loose", 40);
        String unlike = Look.at(one).unlike(Look.at(many));
        Due.due("loose(40) is unlike 40 of loose(1): " + unlike, unlike.isEmpty() ? 1 : 0, 1);
        Sentence.of("Promise 18", "BEYOND.");
        Refused.outside("loose", 0, 1, 40, 1);
        Refused.outside(Scene.LATE, "loose", 0, 1, 40, 1);
    }

    private static void looseState() {
        Sentence.of("Promise 18", "STATE: HOUR would be above 9999.");
        Run r = new Run().pass(9950).make("image").pass(9).due(0, "loose", 40).due(9999, "count", 1);
        r.make("restore").pass(10).due(Due.STATE, "loose", 40).due(9960, "count", 1).due(1, "count", 10);
        r.due(0, "ofSwallow", 0).due(0, "loose", 39).due(9999, "count", 1).due(Due.STATE, "loose", 1);
        r.due(Due.STATE, "loose", 40).due(3, "told", 3);
        Refused.in(Scene.LATE, Due.STATE, "loose", 1);
        Refused.in(Scene.LATE, Due.STATE, "loose", 40);
    }
}
