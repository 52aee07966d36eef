/** Counts the answers that a test asks about, and prints those that are not as due. */
final class Due {
    static final int LOW = -1000000000;
    static final int BEYOND = LOW - 1;
    static final int NONE = LOW - 2;
    static final int STATE = LOW - 3;
    static final int FULL = LOW - 4;
    static final int KIND = LOW - 5;

    private static String topic = "";
    private static int asked = 0;
    private static int wrong = 0;

    private Due() {
    }

    static void topic(String name) {
        topic = name;
    }

    static void due(String call, long got, long want) {
        asked++;
        if (got != want) {
            wrong++;
            if (wrong <= 40) {
                System.out.println(topic + ": " + call + " answered " + got + ", due is " + want);
            }
        }
    }

    static int asked() {
        return asked;
    }

    static int wrong() {
        return wrong;
    }

    /** To be called last by each main. */
    static void end() {
        System.out.println(asked + " answers, " + wrong + " not as due");
        if (asked == 0 || wrong != 0) {
            System.exit(1);
        }
    }
}
