/** Calls that answer an ERROR; each changes nothing but what told() tells. */
final class Refused {
    private Refused() {
    }

    /** In a scene, a call is answered by an ERROR, is counted by told(), and changes nothing else. */
    static void in(Scene scene, int error, String name, long... args) {
        String call = Run.told(name, args) + " in " + scene;
        Run r = scene.make();
        Due.due(call, r.call(name, args), error);
        alike(call, scene.look(), Look.at(r), Due.LOW - error);
        Run again = scene.make();
        again.call(name, args);
        alike(call + ", restore()", scene.imageLook(), Look.atImage(again), Due.LOW - error);
    }

    private static void alike(String call, Look before, Look behind, int k) {
        for (int i = 1; i <= 5; i++) {
            Due.due(call + ", told(" + i + ")", behind.told[i], before.told[i] + (i == k ? 1 : 0));
        }
        String unlike = before.unlike(behind);
        Due.due(call + " changed something: " + unlike, unlike.isEmpty() ? 1 : 0, 1);
    }

    /**
     * An argument (its place, from 0) may be least to most: those next to them and the farthest
     * ints are BEYOND, the other arguments being as told.
     */
    static void outside(Scene scene, String name, int place, long least, long most, long... args) {
        for (long v : new long[] {least - 1, most + 1, Integer.MIN_VALUE, Integer.MAX_VALUE}) {
            long[] row = args.clone();
            row[place] = v;
            in(scene, Due.BEYOND, name, row);
        }
    }

    /** As above, in the scene MIDDLE. */
    static void outside(String name, int place, long least, long most, long... args) {
        outside(Scene.MIDDLE, name, place, least, most, args);
    }
}
