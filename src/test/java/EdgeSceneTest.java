/** The edges of promises 13 to 21: the scene, ACTS and UNDO. */
public final class EdgeSceneTest {
    private static final int LEAST = Integer.MIN_VALUE;
    private static final int MOST = Integer.MAX_VALUE;
    private static final String PLATES = "plate a row 7;plate b neg a;plate c square 3;";
    private static final String THREE = PLATES
        + "source 1 2 3;source 40 50 60;source 7 8 9;lost 4 5;lost 14 15;lost 24 25;"
        + "stray 11 12 13;stray 21 22 23;stray 31 32 33;back 5;use b;";

    public static void main(String[] args) {
        thing();
        thingRefused();
        thingAsTold();
        addRanges();
        addOneTooMany();
        addRefused();
        dropComesUp();
        dropRefused();
        loseRanges();
        loseOneTooMany();
        loseAlready();
        healComesUp();
        healRefused();
        light();
        lightRefused();
        use();
        useRefused();
        slideModulo();
        slideRefused();
        undoEach();
        undoTwelve();
        undoLatest();
        undoRefused();
        undoOfUsed();
        actsAreSeven();
        Bench.end();
    }

    private static void things(Bench b, int kind, int[][] want) {
        b.gives(want.length, "many", kind + 1);
        for (int k = 0; k < want.length; k++) {
            for (int what = 0; what < want[k].length; what++) {
                b.gives(want[k][what], "thing", kind, k, what);
            }
        }
    }

    private static void thing() {
        Bench.says("Of a SOURCE (kind 0), a LOST one (1), a STRAY (2), what 0: x, 1: y (as told), "
            + "2: COUNTS");
        Bench b = Bench.of(THREE);
        things(b, 0, new int[][] {{1, 2, 3}, {40, 50, 60}, {7, 8, 9}});
        things(b, 1, new int[][] {{4, 5}, {14, 15}, {24, 25}});
        things(b, 2, new int[][] {{11, 12, 13}, {21, 22, 23}, {31, 32, 33}});
    }

    private static void thingRefused() {
        Bench.says("2: COUNTS (1: of a LOST one, too; 2).");
        Bench b = Bench.of(THREE);
        b.refuses(1, "thing", 1, 0, 2);
        b.refuses(1, "thing", 1, 3, 2);
        b.refuses(1, "thing", 1, -1, 2);
        for (int kind = 0; kind <= 2; kind++) {
            for (int what : new int[] {LEAST, -1, 3, MOST}) {
                b.refuses(1, "thing", kind, 0, what);
                b.refuses(1, "thing", kind, 3, what);
            }
            for (int k : new int[] {LEAST, -1, 3, MOST}) {
                b.refuses(2, "thing", kind, k, 0);
                b.refuses(2, "thing", kind, k, 1);
            }
        }
        b = Bench.of(THREE);
        for (int kind : new int[] {LEAST, -1, 3, MOST}) {
            b.refuses(1, "thing", kind, 0, 0);
            b.refuses(1, "thing", kind, 9, 9);
        }
    }

    private static void thingAsTold() {
        Bench.says("what 0: x, 1: y (as told)");
        Bench b = Bench.of("plate a bits #10;source 99 98 1;lost 97 96;stray 95 94 2;");
        things(b, 0, new int[][] {{99, 98, 1}});
        things(b, 1, new int[][] {{97, 96}});
        things(b, 2, new int[][] {{95, 94, 2}});
    }

    private static void addRanges() {
        Bench.says("A SOURCE (kind 0), a STRAY (2) comes (x, y 0 to 99, COUNTS 1 to 999): its "
            + "number");
        for (int kind = 0; kind <= 2; kind += 2) {
            Bench b = Bench.of(PLATES);
            b.gives(0, "add", kind, 0, 0, 1);
            b.gives(1, "add", kind, 99, 99, 999);
            b.gives(2, "add", kind, 0, 99, 999);
            b.gives(3, "add", kind, 99, 0, 1);
            // the same once more is another one
            b.gives(4, "add", kind, 99, 0, 1);
            things(b, kind, new int[][] {{0, 0, 1}, {99, 99, 999}, {0, 99, 999}, {99, 0, 1},
                {99, 0, 1}});
            b.gives(0, "many", 3 - kind);
            b.gives(5, "many", 6);
        }
    }

    private static void addOneTooMany() {
        Bench.says("its number (1: another kind, too; 3).");
        for (int kind = 0; kind <= 2; kind += 2) {
            Bench b = Bench.of(PLATES);
            for (int k = 0; k < 8; k++) {
                b.gives(k, "add", kind, k, k, k + 1);
            }
            b.refuses(3, "add", kind, 9, 9, 9);
            b.refuses(1, "add", kind, 100, 9, 9);
            b.gives(8, "many", 6);
            // the other kind still has room; and so has this one behind drop() and undo()
            b.gives(0, "add", 2 - kind, 9, 9, 9);
            b.gives(7, "drop", kind, 0);
            b.gives(7, "add", kind, 9, 9, 9);
            b.refuses(3, "add", kind, 9, 9, 9);
            b.gives(10, "undo");
            b.gives(7, "add", kind, 8, 8, 8);
        }
    }

    private static void addRefused() {
        Bench.says("(x, y 0 to 99, COUNTS 1 to 999): its number (1: another kind, too; 3).");
        Bench b = Bench.of(PLATES);
        for (int kind : new int[] {LEAST, -1, 1, 3, MOST}) {
            b.refuses(1, "add", kind, 0, 0, 1);
        }
        for (int kind = 0; kind <= 2; kind += 2) {
            for (int place : new int[] {LEAST, -1, 100, MOST}) {
                b.refuses(1, "add", kind, place, 0, 1);
                b.refuses(1, "add", kind, 0, place, 1);
            }
            for (int counts : new int[] {LEAST, -1, 0, 1000, MOST}) {
                b.refuses(1, "add", kind, 0, 0, counts);
            }
        }
        b.gives(0, "many", 6);
    }

    private static void dropComesUp() {
        Bench.says("A SOURCE (kind 0), a STRAY (2) goes; those behind it come up by one number: "
            + "how many are left");
        int[][][] sources = {{{40, 50, 60}, {7, 8, 9}}, {{1, 2, 3}, {7, 8, 9}},
            {{1, 2, 3}, {40, 50, 60}}};
        int[][][] strays = {{{21, 22, 23}, {31, 32, 33}}, {{11, 12, 13}, {31, 32, 33}},
            {{11, 12, 13}, {21, 22, 23}}};
        for (int k = 0; k < 3; k++) {
            Bench b = Bench.of(THREE);
            b.gives(2, "drop", 0, k);
            things(b, 0, sources[k]);
            b.gives(3, "many", 3);
            b.gives(2, "drop", 2, k);
            things(b, 2, strays[k]);
            things(b, 0, sources[k]);
            b.gives(1, "drop", 0, 1);
            b.gives(0, "drop", 0, 0);
            b.refuses(2, "drop", 0, 0);
            b.gives(2, "many", 3);
        }
        // of as many as there may be
        Bench b = Bench.of("source 1 1 1;".repeat(7) + "source 2 2 2;");
        b.gives(7, "drop", 0, 0);
        b.gives(2, "thing", 0, 6, 0);
        b.refuses(2, "thing", 0, 7, 0);
    }

    private static void dropRefused() {
        Bench.says("how many are left (1; 2).");
        Bench b = Bench.of(THREE);
        for (int kind : new int[] {LEAST, -1, 1, 3, MOST}) {
            b.refuses(1, "drop", kind, 0);
            b.refuses(1, "drop", kind, 9);
        }
        for (int k : new int[] {LEAST, -1, 3, 8, MOST}) {
            b.refuses(2, "drop", 0, k);
            b.refuses(2, "drop", 2, k);
        }
        b.gives(0, "many", 6);
    }

    private static void loseRanges() {
        Bench.says("A CELL is LOST (x, y 0 to 99): how many LOST ones");
        Bench b = Bench.of(PLATES);
        b.gives(1, "lose", 0, 0);
        b.gives(2, "lose", 99, 99);
        b.gives(3, "lose", 0, 99);
        b.gives(4, "lose", 99, 0);
        things(b, 1, new int[][] {{0, 0}, {99, 99}, {0, 99}, {99, 0}});
        b.gives(4, "many", 6);
        for (int place : new int[] {LEAST, -1, 100, MOST}) {
            b.refuses(1, "lose", place, 0);
            b.refuses(1, "lose", 0, place);
        }
        b.gives(4, "many", 2);
    }

    private static void loseOneTooMany() {
        Bench.says("how many LOST ones (1; 3; 4: one is told with these numbers).");
        Bench b = Bench.of(PLATES);
        for (int k = 1; k <= 12; k++) {
            b.gives(k, "lose", k, k);
        }
        b.refuses(3, "lose", 13, 13);
        // 3 ahead of 4, 1 ahead of 3
        b.refuses(3, "lose", 12, 12);
        b.refuses(1, "lose", 100, 12);
        b.gives(11, "heal", 0);
        b.refuses(4, "lose", 12, 12);
        b.gives(12, "lose", 13, 13);
        b.refuses(3, "lose", 14, 14);
    }

    private static void loseAlready() {
        Bench.says("4: one is told with these numbers");
        Bench b = Bench.of("plate a bits #10;lost 1 3;lost 1 3;lost 5 7;");
        b.refuses(4, "lose", 1, 3);
        b.refuses(4, "lose", 5, 7);
        // the same CELL by other numbers; the numbers the other way round
        b.gives(4, "lose", 3, 3);
        b.gives(5, "lose", 3, 1);
        b.gives(6, "lose", 1, 7);
        b.gives(1, "all", 4);
        // of two with these numbers one is left
        b.gives(5, "heal", 0);
        b.refuses(4, "lose", 1, 3);
        b.gives(4, "heal", 0);
        b.gives(5, "lose", 1, 3);
        b.gives(5, "undo");
        b.gives(5, "lose", 1, 3);
    }

    private static void healComesUp() {
        Bench.says("A LOST one is no more; those behind it come up: how many are left (2).");
        int[][][] want = {{{14, 15}, {24, 25}}, {{4, 5}, {24, 25}}, {{4, 5}, {14, 15}}};
        for (int k = 0; k < 3; k++) {
            Bench b = Bench.of(THREE);
            b.gives(2, "heal", k);
            things(b, 1, want[k]);
            b.gives(1, "heal", 1);
            b.gives(0, "heal", 0);
            b.refuses(2, "heal", 0);
            b.gives(3, "many", 6);
        }
        Bench b = Bench.of("lost 1 1;".repeat(11) + "lost 2 2;");
        b.gives(11, "heal", 0);
        b.gives(2, "thing", 1, 10, 0);
        b.refuses(2, "thing", 1, 11, 0);
    }

    private static void healRefused() {
        Bench.says("those behind it come up: how many are left (2).");
        Bench b = Bench.of(THREE);
        for (int k : new int[] {LEAST, -1, 3, 12, MOST}) {
            b.refuses(2, "heal", k);
        }
        b.gives(0, "many", 6);
    }

    private static void light() {
        Bench.says("BACK is another one (0 to 99): what it was (1; 4).");
        Bench b = Bench.of(THREE);
        b.gives(5, "light", 0);
        b.gives(0, "many", 4);
        b.gives(0, "light", 99);
        b.gives(99, "many", 4);
        b.gives(99, "light", 1);
        b.gives(3, "many", 6);
        b.gives(2, "undo");
        b.gives(99, "many", 4);
    }

    private static void lightRefused() {
        Bench.says("what it was (1; 4).");
        Bench b = Bench.of(THREE);
        for (int back : new int[] {LEAST, -1, 100, MOST}) {
            b.refuses(1, "light", back);
        }
        b.refuses(4, "light", 5);
        b.gives(5, "light", 0);
        b.refuses(4, "light", 0);
        b.gives(0, "light", 99);
        b.refuses(4, "light", 99);
        b.gives(2, "many", 6);
    }

    private static void use() {
        Bench.says("Another PLATE is used: which it was (2; 4).");
        Bench b = Bench.of(THREE);
        b.gives(1, "use", 0);
        b.gives(0, "many", 5);
        b.gives(0, "use", 2);
        b.gives(2, "many", 5);
        b.gives(2, "use", 1);
        b.gives(3, "many", 6);
        StringBuilder six = new StringBuilder();
        for (char name = 'a'; name <= 'f'; name++) {
            six.append("plate ").append(name).append(" row 3;");
        }
        b = Bench.of(six.toString());
        b.gives(0, "use", 5);
        b.gives(5, "many", 5);
        b.refuses(2, "use", 6);
    }

    private static void useRefused() {
        Bench.says("which it was (2; 4).");
        Bench b = Bench.of(THREE);
        for (int k : new int[] {LEAST, -1, 3, 6, MOST}) {
            b.refuses(2, "use", k);
        }
        b.refuses(4, "use", 1);
        b.gives(1, "use", 0);
        b.refuses(4, "use", 0);
        b.gives(1, "many", 6);
        // without a PLATE there is none that is used already
        new Bench().refuses(2, "use", 0);
    }

    private static void slideModulo() {
        Bench.says("All SOURCES are a more in x, b in y (0 to 99 each, modulo 100): how many "
            + "SOURCES there are");
        Bench b = Bench.of(PLATES + "source 0 0 3;source 99 99 999;source 50 1 1;lost 1 1;"
            + "stray 2 2 2;");
        b.gives(3, "slide", 1, 0);
        things(b, 0, new int[][] {{1, 0, 3}, {0, 99, 999}, {51, 1, 1}});
        b.gives(3, "slide", 0, 1);
        things(b, 0, new int[][] {{1, 1, 3}, {0, 0, 999}, {51, 2, 1}});
        b.gives(3, "slide", 99, 99);
        things(b, 0, new int[][] {{0, 0, 3}, {99, 99, 999}, {50, 1, 1}});
        b.gives(3, "slide", 50, 99);
        things(b, 0, new int[][] {{50, 99, 3}, {49, 98, 999}, {0, 0, 1}});
        // no others
        things(b, 1, new int[][] {{1, 1}});
        things(b, 2, new int[][] {{2, 2, 2}});
        // as many as there may be
        b = Bench.of("source 98 99 1;".repeat(8));
        b.gives(8, "slide", 2, 2);
        things(b, 0, new int[][] {{0, 1, 1}, {0, 1, 1}, {0, 1, 1}, {0, 1, 1}, {0, 1, 1}, {0, 1, 1},
            {0, 1, 1}, {0, 1, 1}});
        // modulo 100, not by the PLATE's WIDE
        b = Bench.of("plate a bits #1000000;source 98 0 5;");
        b.gives(5, "at", 0, 0, 0);
        b.gives(1, "slide", 2, 0);
        b.gives(5, "at", 0, 0, 0);
        b.gives(1, "slide", 99, 0);
        b.gives(5, "at", 1, 0, 0);
    }

    private static void slideRefused() {
        Bench.says("how many SOURCES there are (1; 4: a and b 0; 5: no SOURCES).");
        for (String text : new String[] {PLATES, THREE}) {
            Bench b = Bench.of(text);
            for (int by : new int[] {LEAST, -1, 100, MOST}) {
                b.refuses(1, "slide", by, 0);
                b.refuses(1, "slide", 0, by);
            }
            b.refuses(4, "slide", 0, 0);
            b.gives(0, "many", 6);
        }
        Bench b = Bench.of(PLATES + "stray 1 1 1;lost 1 1;");
        b.refuses(5, "slide", 1, 0);
        b.refuses(5, "slide", 0, 1);
        b.refuses(5, "slide", 99, 99);
        b.gives(0, "add", 0, 5, 5, 5);
        b.gives(1, "slide", 0, 1);
        b.gives(0, "drop", 0, 0);
        b.refuses(5, "slide", 0, 1);
    }

    private static final String[] ACTS = {"add", "add", "drop", "drop", "lose", "heal", "light",
        "use", "slide"};
    private static final int[][] BY = {{0, 1, 1, 1}, {2, 1, 1, 1}, {0, 1}, {2, 0}, {3, 3}, {1}, {7},
        {0}, {5, 6}};

    private static void undoEach() {
        Bench.says("UNDO: the latest one not undone yet goes back");
        for (int i = 0; i < ACTS.length; i++) {
            Bench b = Bench.of(THREE);
            b.refuses(5, "undo");
            long seen = b.call("all", 0);
            b.call(ACTS[i], BY[i]);
            b.gives(1, "many", 6);
            if (b.printed().equals(THREE)) {
                Bench.fail(ACTS[i] + "() changed nothing");
            }
            b.call("all", 0);
            b.gives(0, "undo");
            Bench.same(b.printed(), THREE, "undo() of " + ACTS[i]);
            b.gives(seen, "all", 0);
            b.refuses(5, "undo");
        }
    }

    private static void undoTwelve() {
        Bench.says("12 are kept");
        for (int acts : new int[] {0, 1, 11, 12, 13, 24, 25}) {
            Bench b = Bench.of(THREE);
            for (int i = 1; i <= acts; i++) {
                b.call("light", 10 + i);
            }
            int kept = Math.min(acts, 12);
            b.gives(kept, "many", 6);
            for (int left = kept - 1; left >= 0; left--) {
                b.gives(left, "undo");
            }
            b.refuses(5, "undo");
            b.gives(acts <= 12 ? 5 : acts - 12 + 10, "many", 4);
        }
        // undone ones make room for others
        Bench b = Bench.of(THREE);
        for (int i = 1; i <= 14; i++) {
            b.call("light", 10 + i);
        }
        b.gives(11, "undo");
        b.gives(10, "undo");
        b.gives(22, "light", 50);
        b.gives(50, "light", 51);
        b.gives(51, "light", 52);
        b.gives(12, "many", 6);
        for (int left = 11; left >= 0; left--) {
            b.gives(left, "undo");
        }
        b.gives(13, "many", 4);
    }

    private static void undoLatest() {
        Bench.says("UNDO: how many more can be (5).");
        Bench b = Bench.of(THREE);
        String[] steps = new String[ACTS.length];
        for (int i = 0; i < ACTS.length; i++) {
            steps[i] = b.printed();
            b.call(ACTS[i], BY[i]);
            Bench.same(b.status(), 0, "STATUS of " + ACTS[i]);
            b.refuses(1, "light", 100);
        }
        for (int i = ACTS.length - 1; i >= 0; i--) {
            b.gives(i, "undo");
            Bench.same(b.printed(), steps[i], "undo() back to " + i);
        }
        b.refuses(5, "undo");
        // an ACT behind undo(): what was undone does not come back
        b.gives(5, "light", 6);
        b.gives(6, "light", 7);
        b.gives(1, "undo");
        b.gives(6, "light", 8);
        b.gives(1, "undo");
        b.gives(6, "many", 4);
        b.gives(0, "undo");
        b.gives(5, "many", 4);
    }

    private static void undoRefused() {
        Bench.says("how many more can be (5).");
        Bench b = new Bench();
        b.refuses(5, "undo");
        b.load(THREE);
        b.refuses(5, "undo");
        // calls that were refused are no ACTS
        b.refuses(1, "add", 1, 0, 0, 1);
        b.refuses(2, "drop", 0, 3);
        b.refuses(4, "lose", 4, 5);
        b.refuses(2, "heal", 3);
        b.refuses(4, "light", 5);
        b.refuses(4, "use", 1);
        b.refuses(4, "slide", 0, 0);
        b.refuses(5, "undo");
        b.gives(5, "light", 6);
        b.gives(0, "undo");
        b.refuses(5, "undo");
    }

    private static void undoOfUsed() {
        Bench.says("UNDO: the latest one not undone yet goes back");
        Bench b = Bench.of(THREE);
        b.gives(1, "use", 2);
        b.gives(9, "keep");
        b.gives(0, "match", 0);
        b.gives(0, "undo");
        b.gives(1, "many", 5);
        // THE PICTURE is no part of it
        b.refuses(5, "match", 0);
        b.gives(1, "use", 2);
        b.gives(0, "match", 0);
    }

    private static void actsAreSeven() {
        Bench.says("ACTS: add(), drop(), lose(), heal(), light(), use(), slide().");
        Bench b = Bench.of(THREE);
        b.gives(7, "keep");
        b.gives(THREE.length(), "print");
        b.gives('p', "out", 0);
        b.feed("back 1;");
        b.call("fault", 0);
        b.call("plate", 0, 5);
        b.call("found", -1, 0);
        b.call("frames", 1, 1, 0, 0);
        b.call("filled", 0);
        b.call("shots", 1, 1, 0);
        b.call("best", 0);
        b.call("worst", 0);
        b.gives(0, "many", 6);
        b.refuses(5, "undo");
        for (int i = 0; i < ACTS.length; i++) {
            b.call(ACTS[i], BY[i]);
            b.gives(i + 1, "many", 6);
        }
    }
}
