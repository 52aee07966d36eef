/** Edges of "Terms", ahead of its number 1: the ERRORS, their order, what they change; quotients. */
public final class EdgesErrorsTest {
    private EdgesErrorsTest() {
    }

    public static void main(String[] args) {
        numbers();
        orderOfBeyondAndFull();
        orderOfBeyondAndState();
        orderOfBeyondAndNone();
        orderOfSheets();
        orderOfKind();
        eachErrorChangesNothing();
        sheetErrorsChangeNothing();
        quotients();
        Due.end();
    }

    private static void numbers() {
        Sentence.of("Terms", "ERRORS are answers below -1000000000: LOW is -1000000000; LOW - 1 BEYOND, "
            + "LOW - 2 NONE, LOW - 3 STATE, LOW - 4 FULL, LOW - 5 KIND.");
        Run r = new Run();
        r.due(-1000000001, "known", -1);
        r.due(-1000000002, "restore");
        r.due(-1000000003, "sheet", 0, 8, -1);
        for (int i = 0; i < 20; i++) {
            r.make("tell", 0);
        }
        r.due(-1000000004, "tell", 0);
        r.make("spoon", 0, 5).due(-1000000005, "as", 0, 1);
    }

    private static void order() {
        Sentence.of("Terms", "Each act tells its ERRORS in the order in which they are asked;");
    }

    private static void orderOfBeyondAndFull() {
        order();
        Run r = Scene.FULL.make();
        r.due(Due.FULL, "spoon", 0, 0).due(Due.FULL, "spoon", 69, 99);
        r.due(Due.BEYOND, "spoon", -1, 0).due(Due.BEYOND, "spoon", 70, 0);
        r.due(Due.BEYOND, "spoon", 0, -1).due(Due.BEYOND, "spoon", 0, 100);
        r.due(Due.FULL, "feed", 0, 1).due(Due.FULL, "feed", 0, 8);
        r.due(Due.BEYOND, "feed", 0, 0).due(Due.BEYOND, "feed", 0, 9);
    }

    private static void orderOfBeyondAndState() {
        order();
        Run r = Scene.LATE.make();
        r.due(Due.STATE, "hours", 1).due(Due.STATE, "hours", 60);
        r.due(Due.BEYOND, "hours", 0).due(Due.BEYOND, "hours", 61).due(Due.BEYOND, "hours", Integer.MAX_VALUE);
        r.due(Due.STATE, "loose", 1).due(Due.STATE, "loose", 40);
        r.due(Due.BEYOND, "loose", 0).due(Due.BEYOND, "loose", 41).due(Due.BEYOND, "loose", Integer.MAX_VALUE);
    }

    private static void orderOfBeyondAndNone() {
        order();
        Run r = new Run().make("spoon", 0, 5).text(1, "20");
        r.due(Due.NONE, "when", 11).due(Due.BEYOND, "when", 12);
        r.due(Due.NONE, "lasts", 0).due(Due.BEYOND, "lasts", 1);
        r.due(Due.NONE, "telling", 4095).due(Due.BEYOND, "telling", 4096);
        for (int p = 0; p < 4; p++) {
            r.make("wash", p, 0);
        }
        r.due(Due.NONE, "silverFor", 0, 60).due(Due.BEYOND, "silverFor", 0, 61).due(Due.BEYOND, "silverFor", 1, 60);
        r.due(Due.NONE, "rubbed", 3, 0, 0).due(Due.NONE, "rubbed", 3, 0, 1);
        r.due(Due.BEYOND, "rubbed", 3, 1, 0).due(Due.BEYOND, "rubbed", 3, -1, 1);
        r.due(Due.BEYOND, "rubbed", 3, 0, 2).due(Due.BEYOND, "rubbed", 3, 0, -1);
        r.due(Due.NONE, "which", 3, 0).due(Due.BEYOND, "which", 3, 1).due(Due.BEYOND, "which", 3, -1);
        r.due(Due.NONE, "trace", -1).due(Due.NONE, "restore");
    }

    private static void orderOfSheets() {
        order();
        Run r = Scene.MIDDLE.make();
        r.due(Due.BEYOND, "sheet", 4, 8, -1).due(Due.BEYOND, "sheet", -1, 8, -1);
        r.due(Due.BEYOND, "sheet", 0, 9, -1).due(Due.STATE, "sheet", 0, 8, -1);
        r.due(Due.BEYOND, "put", 4, 99, 0).due(Due.NONE, "put", 3, 99, 0).due(Due.BEYOND, "put", 0, 99, 0);
        r.due(Due.BEYOND, "move", 3, 0, 4, 0, -1).due(Due.BEYOND, "move", -1, 0, 3, 0, -1);
        r.due(Due.NONE, "move", 3, 0, 2, 0, -1).due(Due.NONE, "move", 0, -1, 3, 0, 1);
        r.due(Due.KIND, "move", 0, 0, 2, 0, -1).due(Due.KIND, "move", 2, -1, 1, 9, 1);
        r.due(Due.BEYOND, "move", 0, 0, 1, 0, -1);
        r.due(Due.BEYOND, "weights", 4).due(Due.NONE, "weights", 3);
        r.due(Due.BEYOND, "judge", 4).due(Due.NONE, "judge", 3);
    }

    private static void orderOfKind() {
        order();
        Run r = Scene.MIDDLE.make();
        r.due(Due.KIND, "as", 0, 1).due(Due.KIND, "as", 0, 6);
        r.due(Due.BEYOND, "as", 0, 7).due(Due.BEYOND, "as", 0, -1).due(Due.BEYOND, "as", 4, 1);
    }

    private static void nothing() {
        Sentence.of("Terms", "one that answers an ERROR changes nothing but what told() tells.");
    }

    /** Each act of promises 2 to 35 once by each ERROR that it has. */
    private static void eachErrorChangesNothing() {
        nothing();
        Object[][] rows = {
            {"word", 12, 9}, {"ofWord", 12, 0}, {"known", 4096}, {"swallow", 6, 1, 1}, {"ofSwallow", 6},
            {"wash", 4, 2}, {"ofWash", 4}, {"spoon", 70, 9}, {"ofSpoon", 4, 0}, {"change", 4, 0, 9},
            {"change", 0, 13, 9}, {"become", 4, 11}, {"as", 4, 0}, {"feed", 'k', 9}, {"text", 2},
            {"law", 2, 1, 1, 1}, {"hours", 61}, {"loose", 41}, {"then", 61, 0, 0}, {"spreads", 61},
            {"when", 12}, {"lasts", 4}, {"silverFor", 0, 61}, {"washFor", 4, 1}, {"kindFor", 0, 61},
            {"rubbed", 0, 0, 2}, {"which", 0, 4}, {"telling", 4096}, {"gossip", 61}, {"much", 4},
            {"odds", 31, 0, 0}, {"voice", 4, 0, 1}, {"voice", 0, 4, 1}, {"count", 11}, {"told", 6},
        };
        for (Object[] row : rows) {
            refused(Scene.MIDDLE, Due.BEYOND, row);
        }
        refused(Scene.FULL, Due.FULL, "spoon", 11, 9);
        refused(Scene.FULL, Due.FULL, "feed", 'k', 1);
        refused(Scene.FULL, Due.FULL, "tell", 1);
        refused(Scene.LATE, Due.STATE, "hours", 1);
        refused(Scene.LATE, Due.STATE, "loose", 1);
        refused(Scene.MIDDLE, Due.KIND, "as", 0, 1);
        refused(Scene.MIDDLE, Due.NONE, "when", 1);
        refused(Scene.MIDDLE, Due.NONE, "lasts", 3);
        refused(Scene.MIDDLE, Due.NONE, "silverFor", 0, 60);
        refused(Scene.MIDDLE, Due.NONE, "telling", 4095);
        refused(Scene.MIDDLE, Due.NONE, "trace", 40);
        refused(Scene.BARE, Due.NONE, "restore");
    }

    private static void sheetErrorsChangeNothing() {
        nothing();
        refused(Scene.MIDDLE, Due.NONE, "rubbed", 3, 0, 0);
        refused(Scene.MIDDLE, Due.NONE, "rubbed", 0, 0, 1);
        refused(Scene.MIDDLE, Due.NONE, "which", 3, 0);
        refused(Scene.MIDDLE, Due.BEYOND, "sheet", 4, 8, 1);
        refused(Scene.MIDDLE, Due.BEYOND, "sheet", 0, 9, 1);
        refused(Scene.MIDDLE, Due.BEYOND, "sheet", 0, 8, 41);
        refused(Scene.MIDDLE, Due.STATE, "sheet", 0, 8, -1);
        refused(Scene.MIDDLE, Due.BEYOND, "put", 4, 0, 1);
        refused(Scene.MIDDLE, Due.BEYOND, "put", 0, 3, 1);
        refused(Scene.MIDDLE, Due.NONE, "put", 3, 0, 1);
        refused(Scene.MIDDLE, Due.BEYOND, "move", 0, 0, 4, 0, 1);
        refused(Scene.MIDDLE, Due.NONE, "move", 0, 0, 3, 0, 1);
        refused(Scene.MIDDLE, Due.KIND, "move", 0, 0, 2, 0, 1);
        refused(Scene.MIDDLE, Due.BEYOND, "move", 0, 0, 1, 3, 3);
        refused(Scene.MIDDLE, Due.BEYOND, "weights", 4);
        refused(Scene.MIDDLE, Due.NONE, "weights", 3);
        refused(Scene.MIDDLE, Due.BEYOND, "judge", 4);
        refused(Scene.MIDDLE, Due.NONE, "judge", 3);
    }

    private static void refused(Scene scene, int error, Object... row) {
        long[] args = new long[row.length - 1];
        for (int i = 0; i < args.length; i++) {
            args[i] = row[i + 1] instanceof Character ? (Character) row[i + 1] : (Integer) row[i + 1];
        }
        Refused.in(scene, error, (String) row[0], args);
    }

    private static void quotients() {
        Sentence.of("Terms", "Quotients are cut (toward 0).");
        Run r = new Run().text(0, "k/w+s");
        r.due(2, "law", 0, -7, 2, 5).due(2, "law", 0, 7, -2, 5).due(8, "law", 0, 7, 2, 5);
        r.due(8, "law", 0, -7, -2, 5).due(5, "law", 0, -1, 2, 5).due(5, "law", 0, 1, 2, 5);
        // Half of WEIGHT 9 is 4, a third of m 8 is 2, half as FRESH as 9 is 4.
        r = new Run().text(0, "(k=7)*5").make("spoon", 10, 9).make("word", 0, 9).make("swallow", 0, 0, 0);
        r.make("hours", 1).due(4, "ofSpoon", 0, 5);
        r = new Run().text(0, "(k=5)*5").make("spoon", 58, 9).make("swallow", 0, 0, 0);
        r.make("hours", 1).due(4, "ofSpoon", 0, 5);
        r = new Run().make("spoon", 0, 9).make("change", 0, 1, 9).make("wash", 0, 0);
        r.make("hours", 1).due(3, "ofSpoon", 0, 5);
    }
}
