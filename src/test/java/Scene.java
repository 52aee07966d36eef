/** Objects that calls are refused in, each with something in all its parts. */
enum Scene {
    /** A new object. */
    BARE {
        @Override
        void furnish(Run r) {
            // All as at first.
        }
    },
    /** SPOONS 0 to 3, of which SPOON 2 is THROUGH; SHEETS 0, 1 of 8 bits, 2 of 16, 3 missing. */
    MIDDLE {
        @Override
        void furnish(Run r) {
            r.make("spoon", 34, 20).make("spoon", 45, 3).make("spoon", 52, 0).make("spoon", 13, 50);
            r.make("change", 0, 1, 4).make("change", 0, 12, 9).make("change", 1, 6, 1);
            r.make("change", 2, 3, 7).make("change", 3, 2, 8);
            r.make("word", 2, 9).make("word", 11, 0).make("known", 1028);
            int[][] swallows = {{0, 7}, {1, 9}, {2, 3}, {7, 11}, {-1, 5}, {3, 0}};
            int[] washes = {0, -1, 1, 7};
            for (int p = 0; p < 6; p++) {
                r.make("swallow", p, swallows[p][0], swallows[p][1]);
            }
            for (int p = 0; p < 4; p++) {
                r.make("wash", p, washes[p]);
            }
            r.text(0, "k+w/3").text(1, "r+6").make("seed", 77);
            r.sheet(0, 8, 7, 0, 9).sheet(1, 8, 1, 2, 3, 4, 5).sheet(2, 16, 6, 8);
            r.make("voice", 1, 3, 5).make("hours", 2).make("tell", 2).make("tell", 5).feed("k+w*2-3");
            r.make("image").make("hours", 1).make("change", 3, 9, 2).make("swallow", 4, 1, 5);
            r.make("seed", 5).make("tell", 9).feed("+1").make("known", 2052);
            r.make("word", -1, 0).make("as", 0, 1);
        }
    },
    /** 8 SPOONS, a TAPE of 50 bytes, 20 numbers that wait, a SHEET of 40, one of 13, one of none. */
    FULL {
        @Override
        void furnish(Run r) {
            for (int s = 0; s < 8; s++) {
                r.make("spoon", 10 * (s % 7) + s, s == 3 ? 0 : 99 - s).make("change", s, s + 1, s + 2);
                r.make("swallow", s % 6, s, 11 - s).make("wash", s % 4, s);
            }
            r.make("sheet", 0, 32, 40).make("put", 0, 0, 7).make("put", 0, 11, 3);
            r.make("put", 0, 28, 9).make("put", 0, 39, 8);
            r.make("sheet", 1, 16, 13).make("put", 1, 12, 5).make("sheet", 2, 8, 0);
            for (int i = 0; i < 20; i++) {
                r.make("tell", 0);
            }
            r.feed("k" + "+1".repeat(24) + "5").make("voice", 6, 3, 1).make("image").make("hours", 1);
            r.make("spoon", 0, 0).make("known", 4095);
        }
    },
    /** HOUR is 9999. */
    LATE {
        @Override
        void furnish(Run r) {
            r.make("spoon", 67, 30).make("spoon", 15, 99).make("swallow", 1, 1, 6).make("wash", 2, 0);
            r.pass(9990).make("change", 0, 3, 5).make("sheet", 0, 8, 2).make("put", 0, 1, 6);
            r.feed("w-k").make("tell", 1).make("image").pass(9);
        }
    };

    private Look look;
    private Look imageLook;

    abstract void furnish(Run r);

    /** A new object, furnished. */
    Run make() {
        Run r = new Run();
        furnish(r);
        return r;
    }

    /** What there is to be seen in it. */
    Look look() {
        if (look == null) {
            look = Look.at(make());
        }
        return look;
    }

    /** What there is to be seen in it when the IMAGE has been brought back. */
    Look imageLook() {
        if (imageLook == null) {
            imageLook = Look.atImage(make());
        }
        return imageLook;
    }
}
