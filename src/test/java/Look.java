import java.util.ArrayList;
import java.util.List;

/** All that can be seen of an object, as a row of answers. It changes the object: it is the last look. */
final class Look {
    final int[] told = new int[6];
    private final List<String> calls = new ArrayList<>();
    private final List<Integer> answers = new ArrayList<>();

    /** All that is there. */
    static Look at(Run r) {
        Look look = new Look();
        look.lookAtTold(r);
        look.lookAtRest(r);
        look.lookAtSheets(r);
        look.see(r, "image");
        return look;
    }

    /** All that the IMAGE brings back. */
    static Look atImage(Run r) {
        Look look = new Look();
        look.lookAtTold(r);
        look.see(r, "restore");
        look.lookAtRest(r);
        return look;
    }

    private int see(Run r, String name, long... args) {
        int answer = r.call(name, args);
        calls.add(Run.told(name, args));
        answers.add(answer);
        return answer;
    }

    private void lookAtTold(Run r) {
        for (int k = 1; k <= 5; k++) {
            told[k] = r.call("told", k);
        }
    }

    private void lookAtRest(Run r) {
        for (int what = 0; what <= 10; what++) {
            see(r, "count", what);
        }
        for (int w = 0; w < 12; w++) {
            for (int what = 0; what <= 2; what++) {
                see(r, "ofWord", w, what);
            }
        }
        for (int p = 0; p < 6; p++) {
            see(r, "ofSwallow", p);
        }
        for (int p = 0; p < 4; p++) {
            see(r, "ofWash", p);
        }
        int spoons = r.call("count", 0);
        for (int s = 0; s < spoons; s++) {
            for (int what = 0; what <= 16; what++) {
                see(r, "ofSpoon", s, what);
            }
        }
        int bodies = r.call("count", 9);
        for (int i = 0; i < bodies; i++) {
            see(r, "trace", i);
        }
        lookAtTexts(r);
        see(r, "check");
    }

    private void lookAtTexts(Run r) {
        see(r, "law", 0, 2, 7, 40);
        see(r, "law", 0, 5, 1, 3);
        see(r, "law", 1, 2, 40, 7);
        see(r, "law", 1, 5, 3, 1);
        see(r, "text", 0);
        see(r, "law", 0, 2, 7, 40);
        see(r, "law", 0, -21, 1, 3);
    }

    private void lookAtSheets(Run r) {
        for (int t = 0; t < 4; t++) {
            if (see(r, "move", t, 0, t, 0, 0) != 0) {
                continue;
            }
            int length = 0;
            for (int step = 32; step > 0; step /= 2) {
                length += see(r, "move", t, 0, t, 0, length + step) == length + step ? step : 0;
            }
            lookAtTwelve(r, t);
            if (length > 12) {
                see(r, "move", t, length - 12, t, 0, 12);
                lookAtTwelve(r, t);
            }
            see(r, "put", t, 0, 1 << 8);
            see(r, "weights", t);
            see(r, "put", t, 0, 1 << 16);
            see(r, "weights", t);
        }
    }

    private void lookAtTwelve(Run r, int sheet) {
        see(r, "weights", sheet);
        for (int w = 0; w < 12; w++) {
            see(r, "ofWord", w, 0);
        }
    }

    /** Where two looks at objects that should be alike are not; "" if they are. */
    String unlike(Look other) {
        for (int i = 0; i < Math.max(calls.size(), other.calls.size()); i++) {
            String here = i < calls.size() ? calls.get(i) + " is " + answers.get(i) : "nothing";
            String there = i < other.calls.size() ? other.calls.get(i) + " is " + other.answers.get(i) : "nothing";
            if (!here.equals(there)) {
                return there + ", where before " + here;
            }
        }
        return "";
    }
}
