/** The edges of section 3 and of promises 25 to 35: what is made of SHADOWS. */
public final class EdgeFoundTest {
    private static final int LEAST = Integer.MIN_VALUE;
    private static final int MOST = Integer.MAX_VALUE;
    private static final String ROW7 =
        "plate a row 7;source 2 0 10;stray 0 0 5;lost 3 0;back 1;";
    private static final String SQUARE = "plate s square 3;plate t turn s 1 0;plate u turn s 2 0;"
        + "plate n neg s;source 1 2 7;source 98 50 20;lost 0 1;lost 99 99;stray 2 2 5;back 3;";
    /** All LOST, BACK 2: at each place 1 is RESTORED, and nothing can be taken. */
    private static final String DARK = "plate a row 3;lost 0 0;lost 1 0;lost 2 0;back 2;";

    public static void main(String[] args) {
        foundFirst();
        foundAsItIsThen();
        foundBelowZero();
        foundAtMostEight();
        foundNone();
        foundNumbers();
        foundAnew();
        foundLargest();
        foundWithLost();
        foundRefused();
        framesTurned();
        framesRound();
        framesRefused();
        filledAll();
        filledWithoutLost();
        filledRefused();
        coarseSizes();
        coarseHigh();
        coarseRefused();
        anti();
        antiLost();
        antiRefused();
        pictureTaken();
        pictureNone();
        keepRefused();
        matchFirst();
        matchSum();
        matchRefused();
        minus();
        minusRefused();
        shotsNumbers();
        shotsSeeds();
        shotsLost();
        shotsDecoded();
        shotsRefused();
        bestFirst();
        bestRefused();
        worstFirst();
        worstWithBack();
        worstNotLost();
        worstRefused();
        Bench.end();
    }

    /** FOUND ones: x, y, COUNTS each. */
    private static void finds(Bench b, int[]... want) {
        b.gives(want.length, "found", -1, 0);
        for (int k = 0; k < want.length; k++) {
            for (int what = 0; what <= 2; what++) {
                b.gives(want[k][what], "found", k, what);
            }
        }
        for (int what = 0; what <= 2; what++) {
            b.refuses(5, "found", want.length, what);
        }
    }

    private static void foundFirst() {
        Bench.says("of all places that with the greatest DECODED, of several the first (by y, then "
            + "x)");
        finds(Bench.of("plate s square 3;source 1 2 4;source 0 1 4;source 2 1 4;source 2 0 4;"),
            new int[] {2, 0, 4}, new int[] {0, 1, 4}, new int[] {2, 1, 4}, new int[] {1, 2, 4});
        finds(Bench.of("plate s square 3;source 1 2 5;source 0 1 4;"),
            new int[] {1, 2, 5}, new int[] {0, 1, 4});
        finds(Bench.of("plate a row 7;source 6 0 1;back 99;"), new int[] {6, 0, 1});
    }

    private static void foundAsItIsThen() {
        Bench.says("if its RESTORED (all as it is then) is above 0, it is the next FOUND one, with "
            + "these COUNTS");
        finds(Bench.of(ROW7), new int[] {2, 0, 5}, new int[] {3, 0, 2}, new int[] {5, 0, 2},
            new int[] {2, 0, 2});
        // the same place again: SHADOWS 0 4 0 by HOLES 0, 1 with the CELL 0 LOST
        finds(Bench.of("plate a bits #110;source 0 0 4;lost 0 0;"), new int[] {0, 0, 2},
            new int[] {0, 0, 1});
        // COUNTS of two at one place
        finds(Bench.of("plate a row 7;source 2 0 10;source 9 5 7;"), new int[] {2, 0, 17});
    }

    private static void foundBelowZero() {
        Bench.says("they are taken from SHADOWS (of CELLS that are not LOST: each that such a "
            + "SOURCE would throw there; below 0, too)");
        // SHADOWS 0 4 0, -2 2 0, -2 0 0, -2 -1 0 with the CELL 2 LOST
        finds(Bench.of("plate a bits #110;source 1 0 4;lost 2 0;"), new int[] {0, 0, 2},
            new int[] {1, 0, 2}, new int[] {1, 0, 1});
        // not from those that are LOST: else the second RESTORED were another
        finds(Bench.of(DARK + "source 0 0 50;"), new int[] {0, 0, 1}, new int[] {0, 0, 1},
            new int[] {0, 0, 1}, new int[] {0, 0, 1}, new int[] {0, 0, 1}, new int[] {0, 0, 1},
            new int[] {0, 0, 1}, new int[] {0, 0, 1});
    }

    private static void foundAtMostEight() {
        Bench.says("till n are FOUND, or its RESTORED is 0 or less.");
        StringBuilder text = new StringBuilder("plate s square 5;");
        for (int k = 0; k < 8; k++) {
            text.append("source ").append(k % 5).append(' ').append(k / 5).append(" 50;");
        }
        Bench b = Bench.of(text.toString());
        b.gives(8, "found", -1, 0);
        b.gives(2, "found", 7, 0);
        b.gives(1, "found", 7, 1);
        b.gives(50, "found", 7, 2);
        b.refuses(5, "found", 8, 0);
        b.gives(7, "drop", 0, 7);
        b.gives(7, "found", -1, 0);
        b.refuses(5, "found", 7, 0);
        b.gives(7, "add", 0, 3, 3, 1);
        b.gives(8, "found", -1, 0);
        b.gives(1, "found", 7, 2);
        // a ninth would be there
        b = Bench.of("plate a set 9 0;back 1;" + "source 0 0 1;".repeat(8));
        b.gives(1, "found", -1, 0);
        b = Bench.of(DARK);
        b.gives(8, "found", -1, 0);
        b.refuses(5, "found", 8, 0);
    }

    private static void foundNone() {
        Bench.says("or its RESTORED is 0 or less.");
        finds(Bench.of("plate a row 7;"));
        finds(Bench.of("plate a row 7;back 99;"));
        // RESTORED 0 at the greatest: BACK 1 by 2, rounded down
        finds(Bench.of("plate a bits #10;lost 0 0;back 1;"));
        finds(Bench.of("plate a bits #10;lost 0 0;back 2;"), new int[] {1, 0, 1});
        // below 0 at the greatest
        finds(Bench.of("plate a bits #1110;lost 0 0;lost 1 0;lost 2 0;lost 3 0;back 3;"));
    }

    private static void foundNumbers() {
        Bench.says("The k-th (from 0 on) FOUND by 8, what 0: x, 1: y, 2: COUNTS; with k NONE what "
            + "0: how many are");
        Bench b = Bench.of("plate s square 3;source 1 2 5;source 0 1 4;");
        b.gives(2, "found", MaskBench.NONE, 0);
        int[][] want = {{1, 2, 5}, {0, 1, 4}};
        for (int k = 0; k < 2; k++) {
            for (int what = 0; what <= 2; what++) {
                b.gives(want[k][what], "found", k, what);
            }
        }
    }

    private static void foundAnew() {
        Bench.says("FOUND, by n (1 to 8): again and again");
        Bench b = Bench.of("plate a row 7;source 2 0 10;");
        b.gives(1, "found", -1, 0);
        b.gives(0, "drop", 0, 0);
        b.gives(0, "found", -1, 0);
        b.refuses(5, "found", 0, 0);
        b.gives(0, "undo");
        b.gives(1, "found", -1, 0);
        b.gives(2, "found", 0, 0);
        b.gives(1, "add", 0, 3, 0, 20);
        b.gives(2, "found", -1, 0);
        b.gives(3, "found", 0, 0);
        b.gives(2, "found", 1, 0);
    }

    /** As many CELLS as there may be, and all that is made of them. */
    private static void foundLargest() {
        Bench.says("again and again: of all places that with the greatest DECODED");
        String text = "plate s square 17;source 16 16 999;source 0 16 500;back 99;";
        Bench b = Bench.of(text);
        finds(b, new int[] {16, 16, 999}, new int[] {0, 16, 500});
        b.gives(0, "filled", 0);
        b.gives(0, "filled", 1);
        // PEAK 144, other SIDES 0, WEIGHTS 1: twice the PEAK less WEIGHTS for each of COUNTS there
        b.gives(287 * 999 - 500, "anti", 16, 16);
        b.gives(287 * 500 - 999, "anti", 0, 16);
        b.gives(-999 - 500, "anti", 16, 0);
        b.gives(144 * 999 + 99, "at", 16, 16, 2);
        b.gives(20 * (144 * 999 + 99), "frames", 20, 99, 16, 16);
        b.gives(289, "keep");
        b.gives(99, "light", 0);
        b.gives(-99, "minus", 16, 16);
        likeModel(text + "lost 0 15;lost 16 3;lost 5 5;lost 16 16;");
    }

    /** What the Model, which is the document word by word, makes of a text, is made of it here. */
    private static void likeModel(String text) {
        Bench b = Bench.of(text);
        Model model = new Model();
        for (int[] five : Bench.feeds(text)) {
            model.call("feed", five);
        }
        model.call("load", text.length());
        String[] calls = {"found -1 0", "filled 0", "filled 1", "worst 0", "worst 1", "worst 2",
            "best 0", "best 1", "all 3", "all 5", "all 6", "frames 3 1 0 0", "frames 20 7 1 0"};
        for (String call : calls) {
            agree(b, model, call);
        }
        for (int k = 0; k < model.call("found", -1, 0); k++) {
            for (int what = 0; what <= 2; what++) {
                agree(b, model, "found " + k + " " + what);
            }
        }
    }

    private static void agree(Bench b, Model model, String call) {
        String[] words = call.split(" ");
        int[] args = new int[words.length - 1];
        for (int i = 0; i < args.length; i++) {
            args[i] = Integer.parseInt(words[i + 1]);
        }
        b.gives(model.call(words[0], args), words[0], args);
    }

    private static void foundWithLost() {
        Bench.says("(of CELLS that are not LOST: each that such a SOURCE would throw there; below "
            + "0, too)");
        for (String used : new String[] {"s", "t", "u", "n"}) {
            likeModel(SQUARE + "use " + used + ";");
        }
        String five = "plate s square 5;plate n neg s;source 1 2 70;source 3 4 200;source 0 3 50;";
        String lost = "lost 0 0;lost 1 1;lost 2 3;lost 3 2;lost 4 4;lost 0 2;lost 2 0;lost 3 1;";
        likeModel(five + lost);
        likeModel(five + lost + "back 9;");
        likeModel(five + lost + "back 9;stray 1 0 300;stray 2 2 99;use n;");
        likeModel(ROW7 + "lost 4 0;lost 6 0;source 5 0 99;");
        likeModel(ROW7 + "back 50;lost 0 0;lost 1 0;lost 2 0;source 5 0 99;");
        likeModel("plate a row 11;plate b neg a;source 3 0 40;source 9 0 77;lost 1 0;lost 8 0;back 7;"
            + "use b;");
        likeModel("plate a row 13;source 3 0 40;source 9 0 77;lost 1 0;lost 8 0;back 7;");
        likeModel("plate a set 13 0 1 3 9;source 3 0 40;source 9 0 77;lost 1 0;lost 8 0;back 7;");
    }

    private static void foundRefused() {
        Bench.says("with k NONE what 0: how many are (1; 2: no PLATE; 5: not so many; it can't "
            + "restore).");
        Bench b = Bench.of("plate s square 3;source 1 2 5;source 0 1 4;");
        b.refuses(1, "found", -1, 1);
        b.refuses(1, "found", -1, 2);
        for (int what : new int[] {LEAST, -1, 3, MOST}) {
            b.refuses(1, "found", -1, what);
            b.refuses(1, "found", 0, what);
            b.refuses(1, "found", 2, what);
            new Bench().refuses(1, "found", 0, what);
        }
        for (int k : new int[] {LEAST, -3, -2}) {
            b.refuses(1, "found", k, 0);
            new Bench().refuses(1, "found", k, 0);
        }
        for (int k : new int[] {2, 3, 8, MOST}) {
            b.refuses(5, "found", k, 0);
        }
        new Bench().refuses(2, "found", -1, 0);
        new Bench().refuses(2, "found", 9, 2);
        for (String form : EdgeSeenTest.BLIND) {
            b = Bench.of("plate a " + form + ";source 0 0 5;");
            b.refuses(5, "found", -1, 0);
            b.refuses(5, "found", 0, 0);
            b.refuses(1, "found", -2, 0);
        }
    }

    /** DECODED at x, y by the PLATES s, t, u of SQUARE, one behind the other. */
    private static long[] byTurns(int x, int y) {
        long[] all = new long[3];
        for (int k = 0; k < 3; k++) {
            Bench b = Bench.of(SQUARE);
            if (k > 0) {
                b.gives(0, "use", k);
            }
            all[k] = b.call("at", x, y, 2);
        }
        return all;
    }

    private static void framesTurned() {
        Bench.says("frame f (from 0 on) with the PLATE as by turn f times STEP, 0; DECODED by all "
            + "of these, added.");
        for (int y = 0; y < 3; y++) {
            for (int x = 0; x < 3; x++) {
                long[] d = byTurns(x, y);
                Bench b = Bench.of(SQUARE);
                b.gives(d[0], "frames", 1, 1, x, y);
                b.gives(d[0], "frames", 1, 99, x, y);
                b.gives(d[0] + d[1], "frames", 2, 1, x, y);
                b.gives(d[0] + d[2], "frames", 2, 2, x, y);
                b.gives(d[0] + d[1] + d[2], "frames", 3, 1, x, y);
                b.gives(d[0] + d[1] + d[2], "frames", 3, 98, x, y);
                b.gives(2 * d[0] + d[1] + d[2], "frames", 4, 2, x, y);
            }
        }
        // without LOST a PLATE decodes as well when it is turned
        Bench b = Bench.of("plate a row 7;source 2 0 10;back 1;");
        b.gives(29, "frames", 1, 1, 2, 0);
        b.gives(20 * 29, "frames", 20, 5, 2, 0);
    }

    private static void framesRound() {
        Bench.says("FRAMES, n (1 to 20) by a STEP (1 to 99)");
        for (int y = 0; y < 3; y++) {
            long[] d = byTurns(2, y);
            Bench b = Bench.of(SQUARE);
            b.gives(20 * d[0], "frames", 20, 99, 2, y);
            b.gives(20 * d[0], "frames", 20, 3, 2, y);
            b.gives(7 * d[0] + 7 * d[1] + 6 * d[2], "frames", 20, 1, 2, y);
            b.gives(7 * d[0] + 7 * d[2] + 6 * d[1], "frames", 20, 98, 2, y);
            b.gives(7 * d[0] + 6 * d[1] + 6 * d[2], "frames", 19, 97, 2, y);
        }
        // HOLE 0 of two CELLS, 0 LOST: 6 in each frame whose turn is odd
        Bench b = Bench.of("plate a bits #10;source 0 0 6;lost 0 0;");
        b.gives(0, "frames", 1, 1, 0, 0);
        b.gives(6, "frames", 2, 1, 0, 0);
        b.gives(6, "frames", 3, 1, 0, 0);
        b.gives(60, "frames", 20, 1, 0, 0);
        b.gives(60, "frames", 20, 99, 0, 0);
        b.gives(0, "frames", 20, 98, 0, 0);
        b.gives(-60, "frames", 20, 99, 1, 0);
    }

    private static void framesRefused() {
        Bench.says("FRAMES, n by a STEP, at a place: DECODED by all of these (1; 2: no PLATE, x, y "
            + "not on it); STATUS tells NONE from -1.");
        Bench b = Bench.of("plate a bits #10;plate b bits #110;plate c both a b;use c;");
        for (int n : new int[] {LEAST, -1, 0, 21, MOST}) {
            b.refuses(1, "frames", n, 1, 0, 0);
            b.refuses(1, "frames", n, 1, 2, 0);
            new Bench().refuses(1, "frames", n, 1, 0, 0);
        }
        for (int step : new int[] {LEAST, -1, 0, 100, MOST}) {
            b.refuses(1, "frames", 1, step, 0, 0);
            b.refuses(1, "frames", 1, step, 0, 3);
        }
        for (int x : new int[] {LEAST, -1, 2, MOST}) {
            b.refuses(2, "frames", 1, 1, x, 0);
        }
        for (int y : new int[] {LEAST, -1, 3, MOST}) {
            b.refuses(2, "frames", 20, 99, 0, y);
        }
        b.gives(0, "frames", 20, 99, 1, 2);
        new Bench().refuses(2, "frames", 1, 1, 0, 0);
        Bench.of("plate a bits #0;back 1;").gives(-1, "frames", 1, 1, 0, 0);
    }

    private static void filledAll() {
        Bench.says("FILLED: SHADOWS, but at each LOST CELL BACK and what all FOUND ones (by 8) "
            + "throw there; ERROR by these as if none was LOST.");
        // FOUND 1 eight times at 0: FILLED 2 10 2, DECODED 6 -10 -10, RESTORED 8 0 0
        Bench b = Bench.of(DARK);
        b.gives(8, "filled", 0);
        b.gives(8, "filled", 1);
        b = Bench.of(ROW7);
        b.gives(10, "filled", 0);
        b.gives(3, "filled", 1);
        Bench.says("FILLED, what 0: ERROR, 1: of LOST CELLS the greatest difference, without sign");
        // FOUND 3 of 4 at 0: FILLED 3 4 0, DECODED 7 1 -1
        b = Bench.of("plate a bits #110;source 0 0 4;lost 0 0;");
        b.gives(1 + 0 + 1, "filled", 0);
        b.gives(1, "filled", 1);
        // a STRAY at a LOST CELL is not filled in
        b = Bench.of("plate a bits #10;stray 0 0 50;lost 0 0;");
        b.gives(50, "filled", 1);
        b.gives(0, "filled", 0);
    }

    private static void filledWithoutLost() {
        Bench.says("1: of LOST CELLS the greatest difference, without sign, of FILLED and WHOLE (0 "
            + "without LOST)");
        Bench b = Bench.of("plate a row 7;source 2 0 10;stray 0 0 5;back 1;");
        b.gives(0, "filled", 1);
        b.gives(b.call("all", 3), "filled", 0);
        // below, above, the greatest of several
        b = Bench.of("plate a bits #1000;stray 0 0 9;stray 1 0 5;lost 0 0;lost 1 0;");
        b.gives(9, "filled", 1);
        b = Bench.of("plate a bits #1000;stray 1 0 9;stray 2 0 5;lost 2 0;lost 5 0;");
        b.gives(9, "filled", 1);
        b = Bench.of(DARK + "stray 1 0 3;");
        b.gives(5, "filled", 1);
    }

    private static void filledRefused() {
        Bench.says("of FILLED and WHOLE (0 without LOST) (1; 2: no PLATE; 5: it can't restore).");
        for (int what : new int[] {LEAST, -1, 2, MOST}) {
            Bench.of(ROW7).refuses(1, "filled", what);
            new Bench().refuses(1, "filled", what);
            Bench.of("plate a set 3;").refuses(1, "filled", what);
        }
        for (int what = 0; what <= 1; what++) {
            new Bench().refuses(2, "filled", what);
            for (String form : EdgeSeenTest.BLIND) {
                Bench.of("plate a " + form + ";").refuses(5, "filled", what);
            }
        }
    }

    private static void coarseSizes() {
        Bench.says("COARSE by m (2 or more; WIDE has it without rest): of each m CELLS side by "
            + "side in a row (from x 0 on) the SHADOWS, added.");
        StringBuilder text = new StringBuilder("plate a set 12;");
        int[] counts = {1, 2, 4, 8, 16, 32, 64, 128};
        for (int k = 0; k < 8; k++) {
            text.append("stray ").append(k).append(" 0 ").append(counts[k]).append(';');
        }
        Bench b = Bench.of(text + "back 1;lost 11 0;");
        int[] by2 = {5, 14, 50, 194, 2, 1};
        for (int k = 0; k < 6; k++) {
            b.gives(by2[k], "coarse", 2, k);
        }
        int[] by3 = {10, 59, 195, 2};
        for (int k = 0; k < 4; k++) {
            b.gives(by3[k], "coarse", 3, k);
        }
        b.gives(69, "coarse", 6, 0);
        b.gives(197, "coarse", 6, 1);
        b.gives(266, "coarse", 12, 0);
        // two CELLS
        Bench.of("plate a bits #10;back 7;").gives(14, "coarse", 2, 0);
        Bench.of("plate a set 47;back 7;").gives(47 * 7, "coarse", 47, 0);
    }

    private static void coarseHigh() {
        Bench.says("COARSE by m, the k-th (from 0 on, by y, then x)");
        Bench b = Bench.of("plate a set 4;plate b set 3;plate c both a b;stray 0 0 1;stray 2 0 2;"
            + "stray 1 1 4;stray 3 1 8;stray 0 2 16;stray 3 2 32;use c;");
        int[] want = {1, 2, 4, 8, 16, 32};
        for (int k = 0; k < 6; k++) {
            b.gives(want[k], "coarse", 2, k);
        }
        b.refuses(5, "coarse", 2, 6);
        b.gives(3, "coarse", 4, 0);
        b.gives(12, "coarse", 4, 1);
        b.gives(48, "coarse", 4, 2);
        b.refuses(5, "coarse", 4, 3);
        // CELLS have it without rest, WIDE has not
        b.refuses(5, "coarse", 3, 0);
        b.refuses(5, "coarse", 6, 0);
        b.refuses(5, "coarse", 12, 0);
        b = Bench.of("plate s square 17;back 1;");
        b.gives(17, "coarse", 17, 16);
        b.refuses(5, "coarse", 17, 17);
    }

    private static void coarseRefused() {
        Bench.says("(1: m below 2, k below 0; 2: no PLATE; 5: WIDE has not m without rest, not so "
            + "many).");
        Bench b = Bench.of("plate a set 6;back 1;");
        for (int m : new int[] {LEAST, -6, -1, 0, 1}) {
            b.refuses(1, "coarse", m, 0);
            b.refuses(1, "coarse", m, 9);
            new Bench().refuses(1, "coarse", m, 0);
        }
        for (int k : new int[] {LEAST, -2, -1}) {
            b.refuses(1, "coarse", 2, k);
            b.refuses(1, "coarse", 4, k);
            new Bench().refuses(1, "coarse", 2, k);
        }
        for (int m : new int[] {4, 5, 7, 12, 47, MOST}) {
            b.refuses(5, "coarse", m, 0);
        }
        for (int k : new int[] {3, 4, 6, MOST}) {
            b.refuses(5, "coarse", 2, k);
        }
        b.gives(2, "coarse", 2, 2);
        b.refuses(5, "coarse", MOST, MOST);
        new Bench().refuses(2, "coarse", 2, 0);
        new Bench().refuses(2, "coarse", MOST, MOST);
        Bench.of("plate a bits #1;").refuses(5, "coarse", 2, 0);
    }

    private static void anti() {
        Bench.says("ANTI at x, y: of each CELL u, v that is not LOST SHADOW less what it would be "
            + "by neg of the PLATE, times the WEIGHT (of the PLATE) at u less x, v less y, added.");
        Bench by = Bench.of(SQUARE);
        long[][] less = new long[3][3];
        for (int i = 0; i < 9; i++) {
            less[i % 3][i / 3] = by.call("at", i % 3, i / 3, 0);
        }
        by.gives(0, "use", 3);
        for (int i = 0; i < 9; i++) {
            less[i % 3][i / 3] -= by.call("at", i % 3, i / 3, 0);
        }
        Bench b = Bench.of(SQUARE);
        for (int y = 0; y < 3; y++) {
            for (int x = 0; x < 3; x++) {
                long sum = 0;
                for (int i = 0; i < 9; i++) {
                    sum += less[i % 3][i / 3]
                        * by.call("cell", 0, (i % 3 - x + 3) % 3, (i / 3 - y + 3) % 3, 1);
                }
                b.gives(sum, "anti", x, y);
            }
        }
        b = Bench.of("plate a row 7;source 2 0 10;back 1;");
        b.gives(70, "anti", 2, 0);
        b.gives(-10, "anti", 3, 0);
        Bench.of("plate a bits #100;source 0 0 1;").gives(3, "anti", 0, 0);
        // as many SOURCES as there may be, and one of them dropped
        b = Bench.of("plate a bits #10;" + "source 0 0 5;".repeat(8));
        b.gives(80, "anti", 0, 0);
        b.gives(7, "drop", 0, 7);
        b.gives(70, "anti", 0, 0);
        // the WEIGHT is the PLATE's, not that of HOLES: row 5 at 0
        b = Bench.of("plate a row 5;source 0 0 10;");
        b.gives(30, "anti", 0, 0);
    }

    private static void antiLost() {
        Bench.says("ANTI at x, y: of each CELL u, v that is not LOST");
        Bench b = Bench.of("plate a bits #10;source 0 0 6;lost 0 0;");
        b.gives(6, "anti", 0, 0);
        b.gives(2, "lose", 1, 0);
        b.gives(0, "anti", 0, 0);
        b.gives(0, "anti", 1, 0);
        // BACK and STRAYS are there by both
        b = Bench.of("plate a bits #10;stray 0 0 6;back 9;");
        b.gives(0, "anti", 0, 0);
        // one without a HOLE
        Bench.of("plate a set 3;source 0 0 5;").gives(15, "anti", 0, 0);
    }

    private static void antiRefused() {
        Bench.says("ANTI at a place (2: no PLATE, x, y not on it); STATUS tells NONE from -1.");
        Bench b = Bench.of("plate a bits #10;plate b bits #110;plate c both a b;use c;");
        for (int x : new int[] {LEAST, -1, 2, MOST}) {
            b.refuses(2, "anti", x, 0);
        }
        for (int y : new int[] {LEAST, -1, 3, MOST}) {
            b.refuses(2, "anti", 0, y);
        }
        b.gives(0, "anti", 1, 2);
        new Bench().refuses(2, "anti", 0, 0);
        Bench.of("plate a bits #100;source 0 0 1;").gives(-1, "anti", 1, 0);
    }

    private static void pictureTaken() {
        Bench.says("THE PICTURE: SHADOWS of all CELLS when keep() was called latest, and the size "
            + "of the PLATE that was used");
        Bench b = Bench.of("plate a bits #100;plate b bits #010;plate c bits #10;stray 0 0 5;"
            + "stray 1 0 7;lost 1 0;");
        b.gives(3, "keep");
        b.gives(25, "match", 2);
        // what is seen later leaves it as it was
        b.gives(0, "light", 1);
        b.gives(30, "match", 2);
        b.gives(0, "heal", 0);
        b.gives(40, "match", 2);
        // the latest tells
        b.gives(3, "keep");
        b.gives(36 + 64 + 1, "match", 2);
        // another PLATE of this size, one of another
        b.gives(0, "use", 1);
        b.gives(36 + 64 + 1, "match", 2);
        b.gives(1, "use", 2);
        b.refuses(5, "match", 2);
        b.gives(2, "use", 0);
        b.gives(36 + 64 + 1, "match", 2);
        Bench.says("THE PICTURE is taken: how many CELLS (2: no PLATE).");
        Bench.of("plate a bits #1;").gives(1, "keep");
        Bench.of("plate a set 47;").gives(47, "keep");
        Bench.of("plate a square 17;").gives(289, "keep");
        Bench.of("plate a set 2;plate b set 5;plate c both a b;use c;").gives(10, "keep");
    }

    private static void pictureNone() {
        Bench.says("(none at first, nor behind load() with STATUS 0)");
        Bench b = Bench.of("plate a bits #10;");
        b.refuses(5, "match", 0);
        b.refuses(5, "minus", 0, 0);
        b.gives(2, "keep");
        b.gives(0, "match", 0);
        b.gives(0, "minus", 0, 0);
        // with another STATUS it stays
        b.refuses(1, "load", 1);
        b.gives(0, "match", 0);
        b.load("plate a bits #1");
        b.gives(0, "match", 0);
        b.load("plate a bits #10;");
        b.refuses(5, "match", 0);
        b.refuses(5, "minus", 0, 0);
        b.gives(2, "keep");
        b.gives(0, "minus", 0, 0);
    }

    private static void keepRefused() {
        Bench.says("how many CELLS (2: no PLATE).");
        Bench b = new Bench();
        b.refuses(2, "keep");
        b.gives(0, "add", 0, 0, 0, 1);
        b.refuses(2, "keep");
        b.load("plate a bits #10;");
        b.refuses(5, "match", 0);
    }

    private static void matchFirst() {
        Bench.says("MATCH: of all s, t (0 to WIDE, HIGH less 1) that for which THE PICTURE of each "
            + "CELL x, y times SHADOW at x plus s, y plus t, added, is greatest; of several the "
            + "first (by t, then s).");
        for (int t = 0; t < 3; t++) {
            for (int s = 0; s < 3; s++) {
                Bench b = Bench.of("plate s square 3;source 50 50 5;");
                b.gives(9, "keep");
                if (s + t > 0) {
                    b.gives(1, "slide", s, t);
                }
                b.gives(s, "match", 0);
                b.gives(t, "match", 1);
                b.gives(100, "match", 2);
            }
        }
        // several: from 0, 0 to 1, 2 and 2, 1 and 2, 0 alike: t ahead of s
        Bench b = Bench.of("plate s set 3;plate c both s s;stray 0 0 5;use c;");
        b.gives(9, "keep");
        b.gives(0, "match", 0);
        b.gives(0, "drop", 2, 0);
        b.gives(0, "match", 2);
        b.gives(0, "match", 0);
        b.gives(0, "match", 1);
        b.gives(0, "add", 2, 1, 2, 4);
        b.gives(1, "add", 2, 2, 1, 4);
        b.gives(2, "match", 0);
        b.gives(1, "match", 1);
        b.gives(20, "match", 2);
        b.gives(2, "add", 2, 1, 1, 4);
        b.gives(1, "match", 0);
        b.gives(1, "match", 1);
        // back at the first again, and not at what was greatest ahead
        b.gives(3, "add", 2, 0, 0, 9);
        b.gives(0, "match", 0);
        b.gives(0, "match", 1);
        b.gives(45, "match", 2);
        // nothing in THE PICTURE: all are 0
        b = Bench.of("plate s square 3;");
        b.gives(9, "keep");
        b.gives(0, "add", 0, 1, 1, 9);
        b.gives(0, "match", 0);
        b.gives(0, "match", 1);
        b.gives(0, "match", 2);
    }

    private static void matchSum() {
        Bench.says("`long match(int what)`: MATCH, what 0: s, 1: t, 2: the sum");
        String most = "source 0 0 999;".repeat(8) + "stray 0 0 999;".repeat(8) + "back 99;";
        Bench b = Bench.of("plate a set 17;plate b both a a;" + most + "use b;");
        b.gives(289, "keep");
        long all = 8 * 999 + 99;
        long one = all + 8 * 999;
        b.gives(288 * all * all + one * one, "match", 2);
        b.gives(0, "match", 0);
        b.gives(0, "match", 1);
    }

    private static void matchRefused() {
        Bench.says("2: the sum (1; 2: no PLATE; 5: no PICTURE, or the PLATE has another size than "
            + "it).");
        for (int what : new int[] {LEAST, -1, 3, MOST}) {
            new Bench().refuses(1, "match", what);
            Bench.of(ROW7).refuses(1, "match", what);
        }
        for (int what = 0; what <= 2; what++) {
            new Bench().refuses(2, "match", what);
            Bench.of(ROW7).refuses(5, "match", what);
        }
        // WIDE alike and HIGH not; as many CELLS; both the other way round
        Bench b = Bench.of("plate a set 2;plate b set 3;plate c both a b;plate d both b a;"
            + "plate e set 6;plate f neg c;");
        b.gives(0, "use", 2);
        b.gives(6, "keep");
        b.gives(0, "match", 0);
        for (int k : new int[] {0, 1, 3, 4}) {
            b.call("use", k);
            b.refuses(5, "match", 2);
            b.refuses(5, "minus", 0, 0);
            b.refuses(1, "match", 3);
        }
        b.gives(4, "use", 5);
        b.gives(0, "match", 2);
    }

    private static void minus() {
        Bench.says("MINUS at x, y: SHADOW less THE PICTURE, of each CELL u, v, times the WEIGHT at "
            + "u less x, v less y, added.");
        Bench b = Bench.of("plate s square 3;stray 0 0 5;back 1;");
        b.gives(9, "keep");
        b.gives(1, "add", 2, 1, 2, 5);
        // one CELL with 5 more: as in DECODED
        int[][] want = {{-5, -5, 5}, {5, -5, -5}, {5, 5, 5}};
        for (int y = 0; y < 3; y++) {
            for (int x = 0; x < 3; x++) {
                b.gives(want[y][x], "minus", x, y);
            }
        }
        // and that CELL LOST: 1 less than in THE PICTURE
        b.gives(1, "lose", 1, 2);
        b.gives(-1, "minus", 1, 2);
        b.gives(1, "minus", 0, 0);
        // the WEIGHT of the PLATE that is used now
        b = Bench.of("plate a bits #10;plate b bits #01;stray 0 0 5;");
        b.gives(2, "keep");
        b.gives(0, "light", 1);
        b.gives(1, "add", 2, 1, 0, 7);
        b.gives(-7, "minus", 0, 0);
        b.gives(0, "use", 1);
        b.gives(7, "minus", 0, 0);
    }

    private static void minusRefused() {
        Bench.says("MINUS at a place (2: no PLATE, x, y not on it; 5 as match()); STATUS tells "
            + "NONE from -1.");
        Bench b = Bench.of("plate a bits #10;plate b bits #110;plate c both a b;use c;");
        new Bench().refuses(2, "minus", 0, 0);
        b.refuses(5, "minus", 0, 0);
        for (int round = 0; round < 2; round++) {
            for (int x : new int[] {LEAST, -1, 2, MOST}) {
                b.refuses(2, "minus", x, 0);
            }
            for (int y : new int[] {LEAST, -1, 3, MOST}) {
                b.refuses(2, "minus", 0, y);
            }
            b.gives(6, "keep");
        }
        b.gives(0, "minus", 1, 2);
        b.gives(0, "add", 2, 0, 0, 1);
        b.gives(-1, "minus", 1, 0);
        b.gives(2, "use", 0);
        b.refuses(5, "minus", 0, 0);
        b.refuses(2, "minus", 0, 1);
    }

    /** How many of n shots by a seed fall below first, of so many numbers in all. */
    private static int below(int n, int seed, int numbers, int first) {
        java.math.BigInteger x = java.math.BigInteger.valueOf(seed);
        int count = 0;
        for (int i = 0; i < n; i++) {
            x = x.multiply(java.math.BigInteger.valueOf(48271))
                .mod(java.math.BigInteger.valueOf(2147483647));
            count += x.mod(java.math.BigInteger.valueOf(numbers)).intValue() < first ? 1 : 0;
        }
        return count;
    }

    private static void shotsNumbers() {
        Bench.says("x modulo all WHOLE added falls on a CELL: CELLS by y, then x, have as many "
            + "numbers, from 0 on, as their WHOLE");
        // HOLE 0: numbers 0 to 6 are the CELL 0's, 7 to 9 the CELL 1's
        for (int n : new int[] {1, 2, 3, 10, 100, 499, 500}) {
            Bench b = Bench.of("plate a bits #10;source 0 0 7;source 1 0 3;lost 1 0;");
            b.gives(below(n, 12345, 10, 7), "shots", n, 12345, 0);
        }
        // a CELL whose WHOLE is 0 has none, the first and the last, too
        Bench b = Bench.of("plate a set 5;stray 2 0 1;");
        b.gives(500, "shots", 500, 1, 0);
        b.gives(0, "shots", 500, 1, 1);
        b.gives(1, "lose", 2, 0);
        b.gives(0, "shots", 500, 1, 0);
        // y ahead of x: 0,0 1,0 0,1 1,1 have 1 2 3 4 numbers
        String four = "plate a set 2;plate b both a a;use b;stray 0 0 1;stray 1 0 2;stray 0 1 3;"
            + "stray 1 1 4;";
        int[] first = {0, 1, 3, 6, 10};
        for (int i = 0; i < 4; i++) {
            b = Bench.of(four);
            b.gives(1, "lose", i % 2, i / 2);
            int hit = below(500, 77, 10, first[i + 1]) - below(500, 77, 10, first[i]);
            b.gives(500 - hit, "shots", 500, 77, 0);
        }
    }

    private static void shotsSeeds() {
        Bench.says("SHOTS, n (1 to 500) by a seed: x is the seed at first; n times x becomes 48,271 "
            + "times x modulo 2,147,483,647;");
        // 48271, and 48271 times that less so often 2147483647: 182605794; modulo 10 they are 1, 4
        String two = "plate a bits #10;source 0 0 2;source 1 0 8;";
        Bench.of(two).gives(0, "shots", 1, 1, 1);
        Bench.of(two + "lost 0 0;").gives(1, "shots", 2, 1, 0);
        Bench.says("SHOTS, n by a seed (1 to 65536), what 0: how many are counted");
        for (int seed : new int[] {1, 2, 65535, 65536}) {
            Bench b = Bench.of("plate a bits #10;source 0 0 999;source 1 0 998;lost 1 0;");
            for (int n : new int[] {1, 2, 100, 500}) {
                b.gives(below(n, seed, 1997, 999), "shots", n, seed, 0);
            }
        }
    }

    private static void shotsLost() {
        Bench.says("it counts one, unless it is LOST.");
        Bench b = Bench.of("plate a bits #1;back 1;");
        b.gives(500, "shots", 500, 1, 0);
        b.gives(1, "shots", 1, 65536, 0);
        b.gives(1, "lose", 0, 0);
        b.gives(0, "shots", 500, 1, 0);
        b.gives(0, "shots", 500, 1, 1);
        b.gives(0, "shots", 500, 1, 2);
        b.gives(0, "shots", 500, 1, 3);
    }

    private static void shotsDecoded() {
        Bench.says("1, 2: x, y of the place with the greatest DECODED (of several the first, by y, "
            + "then x), 3: DECODED there");
        Bench.says("DECODED by these counts.");
        // all shots on 1, 2: HOLES 1,0 2,0 1,1 2,2; DECODED as of one STRAY there
        Bench b = Bench.of("plate s square 3;stray 1 2 9;");
        b.gives(2, "shots", 5, 1, 1);
        b.gives(0, "shots", 5, 1, 2);
        b.gives(5, "shots", 5, 1, 3);
        // 48271, 182605794: CELLS 1, 0
        b = Bench.of("plate a bits #10;back 1;");
        b.gives(1, "shots", 1, 1, 1);
        b.gives(1, "shots", 1, 1, 3);
        b.gives(0, "shots", 2, 1, 1);
        b.gives(0, "shots", 2, 1, 3);
        // below 0
        b = Bench.of("plate a bits #0;back 1;");
        b.gives(-500, "shots", 500, 1, 3);
        b.gives(-1, "shots", 1, 1, 3);
    }

    private static void shotsRefused() {
        Bench.says("3: DECODED there (1; 2: no PLATE; 5: all WHOLE are 0); STATUS tells NONE from "
            + "-1.");
        Bench b = Bench.of("plate a bits #10;back 1;");
        Bench none = new Bench();
        Bench dark = Bench.of("plate a bits #10;");
        for (int n : new int[] {LEAST, -1, 0, 501, MOST}) {
            b.refuses(1, "shots", n, 1, 0);
            none.refuses(1, "shots", n, 1, 0);
            dark.refuses(1, "shots", n, 1, 0);
        }
        for (int seed : new int[] {LEAST, -1, 0, 65537, MOST}) {
            b.refuses(1, "shots", 1, seed, 0);
            none.refuses(1, "shots", 1, seed, 0);
        }
        for (int what : new int[] {LEAST, -1, 4, MOST}) {
            b.refuses(1, "shots", 1, 1, what);
            dark.refuses(1, "shots", 1, 1, what);
        }
        for (int what = 0; what <= 3; what++) {
            none.refuses(2, "shots", 500, 65536, what);
            dark.refuses(5, "shots", 500, 65536, what);
        }
        // a SOURCE that throws nothing; light that falls on LOST CELLS alone is there
        Bench.of("plate a set 3;source 0 0 9;").refuses(5, "shots", 1, 1, 0);
        Bench.of("plate a bits #10;source 0 0 9;lost 0 0;").gives(0, "shots", 1, 1, 0);
    }

    private static void bestFirst() {
        Bench.says("Of all PLATES by which, if used, it can be RESTORED, what 0: that with the "
            + "least ERROR, of several the first, 1: that ERROR");
        // ERROR by row 7 is 20, by bits #10 it is 6; z can't restore
        Bench b = Bench.of("plate z bits #1;" + ROW7 + "plate b set 7 1 2 4;");
        b.gives(1, "best", 0);
        b.gives(20, "best", 1);
        b.gives(0, "many", 5);
        b = Bench.of("plate z bits #1;" + ROW7 + "plate b set 7 1 2 4;plate c bits #10;plate d bits"
            + " #10;");
        b.gives(3, "best", 0);
        b.gives(6, "best", 1);
        b = Bench.of("plate c bits #10;" + ROW7 + "use a;");
        b.gives(0, "best", 0);
        b.gives(6, "best", 1);
        b.gives(20, "all", 3);
        b.gives(1, "many", 5);
        // six alike, the last alone
        StringBuilder text = new StringBuilder();
        for (char name = 'a'; name <= 'e'; name++) {
            text.append("plate ").append(name).append(" set 4;");
        }
        b = Bench.of(text + "plate f bits #10;source 0 0 3;");
        b.gives(5, "best", 0);
        b.gives(0, "best", 1);
        b.gives(0, "many", 6);
        Bench.of(text.toString().replace("set 4", "row 3") + "plate f row 3;").gives(0, "best", 0);
    }

    private static void bestRefused() {
        Bench.says("of several the first, 1: that ERROR (1; 5: none).");
        for (int what : new int[] {LEAST, -1, 2, MOST}) {
            Bench.of(ROW7).refuses(1, "best", what);
            new Bench().refuses(1, "best", what);
        }
        for (int what = 0; what <= 1; what++) {
            new Bench().refuses(5, "best", what);
            StringBuilder text = new StringBuilder();
            for (int k = 0; k < 6; k++) {
                Bench.of("plate a " + EdgeSeenTest.BLIND[k] + ";").refuses(5, "best", what);
                text.append("plate ").append((char) ('a' + k)).append(' ')
                    .append(EdgeSeenTest.BLIND[k]).append(';');
            }
            Bench.of(text.toString()).refuses(5, "best", what);
        }
    }

    private static void worstFirst() {
        Bench.says("The CELL (by y, then x the first) that, if it was LOST too, would make ERROR "
            + "greatest, what 0: x, 1: y, 2: that ERROR");
        Bench b = Bench.of("plate a row 7;source 2 0 10;");
        b.gives(3, "worst", 0);
        b.gives(0, "worst", 1);
        b.gives(16, "worst", 2);
        b.gives(0, "many", 2);
        b.gives(0, "all", 3);
        b.gives(0, "many", 6);
        // no light: all alike, the first
        b = Bench.of("plate s square 3;");
        b.gives(0, "worst", 0);
        b.gives(0, "worst", 1);
        b.gives(0, "worst", 2);
        // a STRAY at the last CELL is all there is; without it ERROR is less: the first of others
        b = Bench.of("plate s square 3;stray 2 2 90;");
        b.gives(0, "worst", 0);
        b.gives(0, "worst", 1);
        b.gives(b.call("all", 3), "worst", 2);
        // it is what lose() would make of it, and no other makes more
        for (int i = 0; i < 9; i++) {
            Bench all = Bench.of("plate s square 3;source 1 1 50;source 2 0 9;stray 0 2 30;back 2;");
            long most = all.call("worst", 2);
            long at = all.call("worst", 0) + 3 * all.call("worst", 1);
            all.gives(1, "lose", i % 3, i / 3);
            long error = all.call("all", 3);
            if (error > most || (i < at && error == most) || (i == at && error != most)) {
                Bench.fail("worst() is not so with the CELL " + i);
            }
        }
    }

    /** With BACK and SIDES that are not 0, LIGHT is another one without the CELL. */
    private static void worstWithBack() {
        Bench.says("that, if it was LOST too, would make ERROR greatest");
        for (int back : new int[] {0, 1, 7, 40, 99}) {
            String text = "plate a row 7;source 2 0 10;source 6 0 31;back " + back + ";";
            Bench all = Bench.of(text);
            long most = all.call("worst", 2);
            long at = all.call("worst", 0);
            for (int x = 0; x < 7; x++) {
                Bench b = Bench.of(text);
                b.gives(1, "lose", x, 0);
                long error = b.call("all", 3);
                if (error > most || (x < at && error == most) || (x == at && error != most)) {
                    Bench.fail("worst() is not so with the CELL " + x + " and BACK " + back);
                }
            }
            likeModel(text);
        }
    }

    private static void worstNotLost() {
        Bench.says("(1; 2: no PLATE; 5: it can't restore, all CELLS are LOST).");
        // no light at all: the first that is not LOST yet
        Bench b = Bench.of("plate a row 3;lost 0 0;");
        b.gives(1, "worst", 0);
        b.gives(2, "lose", 4, 7);
        b.gives(2, "worst", 0);
        b.gives(3, "lose", 2, 0);
        for (int what = 0; what <= 2; what++) {
            b.refuses(5, "worst", what);
        }
        b.gives(2, "heal", 0);
        b.gives(0, "worst", 0);
        // though as many are LOST as there may be, one more can be thought of
        StringBuilder text = new StringBuilder("plate a row 13;source 1 0 9;");
        for (int x = 0; x < 12; x++) {
            text.append("lost ").append(x).append(" 0;");
        }
        b = Bench.of(text.toString());
        b.gives(12, "worst", 0);
        b.gives(9, "worst", 2);
        // the only one told twice: CELLS are left
        b = Bench.of("plate a bits #10;lost 1 0;lost 1 0;lost 3 9;source 0 0 6;");
        b.gives(0, "worst", 0);
        b.gives(6, "worst", 2);
    }

    private static void worstRefused() {
        Bench.says("2: that ERROR (1; 2: no PLATE; 5: it can't restore, all CELLS are LOST).");
        for (int what : new int[] {LEAST, -1, 3, MOST}) {
            Bench.of(ROW7).refuses(1, "worst", what);
            new Bench().refuses(1, "worst", what);
            Bench.of(DARK).refuses(1, "worst", what);
        }
        for (int what = 0; what <= 2; what++) {
            new Bench().refuses(2, "worst", what);
            Bench.of(DARK).refuses(5, "worst", what);
            for (String form : EdgeSeenTest.BLIND) {
                Bench.of("plate a " + form + ";source 0 0 5;").refuses(5, "worst", what);
            }
        }
    }
}
