/** Promises 13 to 21: thing, add, drop, lose, heal, light, use, slide, undo. */
public final class SceneTest {
    private static final String PLATES = "plate a row 7;plate b neg a;plate c square 3;";
    private static final String FULL = PLATES
        + "source 1 2 3;source 40 50 60;source 7 8 9;lost 4 5;lost 14 15;lost 24 25;"
        + "stray 11 12 13;stray 21 22 23;stray 31 32 33;back 5;use b;";

    public static void main(String[] args) {
        thing();
        add();
        drop();
        lose();
        heal();
        light();
        use();
        slide();
        undo();
        undoKeepsTwelve();
        Bench.end();
    }

    private static void thing() {
        Bench b = Bench.of(FULL);
        b.gives(40, "thing", 0, 1, 0);
        b.gives(50, "thing", 0, 1, 1);
        b.gives(60, "thing", 0, 1, 2);
        b.gives(24, "thing", 1, 2, 0);
        b.gives(25, "thing", 1, 2, 1);
        b.gives(11, "thing", 2, 0, 0);
        b.gives(12, "thing", 2, 0, 1);
        b.gives(13, "thing", 2, 0, 2);
        b.refuses(1, "thing", 1, 0, 2);
        b.refuses(1, "thing", 1, 9, 2);
        b.refuses(1, "thing", 0, 0, 3);
        b.refuses(1, "thing", 0, 0, -1);
        b.refuses(1, "thing", 3, 0, 0);
        b.refuses(1, "thing", -1, 0, 0);
        b.refuses(2, "thing", 0, 3, 0);
        b.refuses(2, "thing", 0, -1, 0);
        b.refuses(2, "thing", 1, 3, 0);
        b.refuses(2, "thing", 2, 3, 0);
    }

    private static void add() {
        Bench b = Bench.of(PLATES + "source 1 2 3;");
        b.gives(1, "add", 0, 99, 0, 999);
        b.gives(99, "thing", 0, 1, 0);
        b.gives(999, "thing", 0, 1, 2);
        b.gives(0, "add", 2, 0, 99, 1);
        b.gives(99, "thing", 2, 0, 1);
        b.gives(2, "many", 1);
        b.gives(1, "many", 3);
        b.refuses(1, "add", 1, 0, 0, 1);
        b.refuses(1, "add", 3, 0, 0, 1);
        b.refuses(1, "add", -1, 0, 0, 1);
        b.refuses(1, "add", 0, 100, 0, 1);
        b.refuses(1, "add", 0, -1, 0, 1);
        b.refuses(1, "add", 0, 0, 100, 1);
        b.refuses(1, "add", 0, 0, -1, 1);
        b.refuses(1, "add", 0, 0, 0, 0);
        b.refuses(1, "add", 0, 0, 0, 1000);
        b.gives(2, "many", 6);
        for (int k = 2; k < 8; k++) {
            b.gives(k, "add", 0, 5, 5, 5);
        }
        b.refuses(3, "add", 0, 5, 5, 5);
        b.refuses(1, "add", 0, 5, 5, 0);
        for (int k = 1; k < 8; k++) {
            b.gives(k, "add", 2, 5, 5, 5);
        }
        b.refuses(3, "add", 2, 5, 5, 5);
        b.gives(8, "many", 1);
        b.gives(8, "many", 3);
    }

    private static void drop() {
        Bench b = Bench.of(FULL);
        b.gives(2, "drop", 0, 1);
        b.gives(7, "thing", 0, 1, 0);
        b.gives(9, "thing", 0, 1, 2);
        b.gives(1, "thing", 0, 0, 0);
        b.gives(2, "drop", 2, 0);
        b.gives(21, "thing", 2, 0, 0);
        b.gives(31, "thing", 2, 1, 0);
        b.refuses(1, "drop", 1, 0);
        b.refuses(1, "drop", 3, 0);
        b.refuses(1, "drop", -1, 0);
        b.refuses(2, "drop", 0, 2);
        b.refuses(2, "drop", 0, -1);
        b.refuses(2, "drop", 2, 2);
        b.gives(1, "drop", 0, 0);
        b.gives(0, "drop", 0, 0);
        b.refuses(2, "drop", 0, 0);
    }

    private static void lose() {
        Bench b = Bench.of(FULL);
        b.gives(4, "lose", 99, 0);
        b.gives(99, "thing", 1, 3, 0);
        b.refuses(4, "lose", 99, 0);
        b.refuses(4, "lose", 14, 15);
        // another place, though the same CELL
        b.gives(5, "lose", 92, 0);
        b.refuses(1, "lose", 100, 0);
        b.refuses(1, "lose", 0, 100);
        b.refuses(1, "lose", -1, 0);
        b.refuses(1, "lose", 0, -1);
        for (int k = 6; k <= 12; k++) {
            b.gives(k, "lose", k, k);
        }
        b.refuses(3, "lose", 0, 0);
        b.refuses(3, "lose", 99, 0);
        b.refuses(1, "lose", 100, 0);
    }

    private static void heal() {
        Bench b = Bench.of(FULL);
        b.refuses(2, "heal", 3);
        b.refuses(2, "heal", -1);
        b.gives(2, "heal", 0);
        b.gives(14, "thing", 1, 0, 0);
        b.gives(25, "thing", 1, 1, 1);
        b.gives(1, "heal", 1);
        b.gives(0, "heal", 0);
        b.refuses(2, "heal", 0);
    }

    private static void light() {
        Bench b = Bench.of(FULL);
        b.gives(5, "light", 99);
        b.gives(99, "many", 4);
        b.refuses(4, "light", 99);
        b.refuses(1, "light", 100);
        b.refuses(1, "light", -1);
        b.gives(99, "light", 0);
        b.gives(2, "many", 6);
    }

    private static void use() {
        Bench b = Bench.of(FULL);
        b.refuses(4, "use", 1);
        b.refuses(2, "use", 3);
        b.refuses(2, "use", -1);
        b.gives(1, "use", 2);
        b.gives(2, "many", 5);
        b.gives(2, "use", 0);
        b.gives(0, "many", 5);
        b.gives(2, "many", 6);
    }

    private static void slide() {
        Bench b = Bench.of(FULL);
        b.gives(3, "slide", 60, 99);
        b.gives(61, "thing", 0, 0, 0);
        b.gives(1, "thing", 0, 0, 1);
        b.gives(0, "thing", 0, 1, 0);
        b.gives(49, "thing", 0, 1, 1);
        b.gives(7, "thing", 0, 2, 1);
        b.gives(4, "thing", 1, 0, 0);
        b.gives(11, "thing", 2, 0, 0);
        b.gives(3, "slide", 0, 1);
        b.gives(3, "slide", 1, 0);
        b.refuses(4, "slide", 0, 0);
        b.refuses(1, "slide", 100, 0);
        b.refuses(1, "slide", 0, 100);
        b.refuses(1, "slide", -1, 0);
        b.refuses(1, "slide", 0, -1);
        b = Bench.of(PLATES);
        b.refuses(4, "slide", 0, 0);
        b.refuses(5, "slide", 1, 0);
        b.refuses(1, "slide", 1, 100);
    }

    /** Each ACT goes back to just what was ahead of it, with what is seen through the PLATE. */
    private static void undo() {
        String[] names = {"add", "add", "drop", "drop", "lose", "heal", "light", "use", "slide"};
        int[][] args = {{0, 1, 1, 1}, {2, 1, 1, 1}, {0, 1}, {2, 0}, {3, 3}, {1}, {7}, {0}, {5, 6}};
        Bench b = Bench.of(FULL);
        String before = b.printed();
        long seen = b.call("all", 0);
        for (int i = 0; i < names.length; i++) {
            b.refuses(5, "undo");
            b.call(names[i], args[i]);
            b.gives(1, "many", 6);
            if (b.printed().equals(before)) {
                Bench.fail(names[i] + "() changed nothing");
            }
            b.call("all", 0);
            b.gives(0, "undo");
            b.gives(seen, "all", 0);
            Bench.same(b.printed(), before, "undo() of " + names[i]);
        }
        // one behind the other, and calls that were refused are no ACTS
        String[] steps = new String[names.length + 1];
        for (int i = 0; i < names.length; i++) {
            steps[i] = b.printed();
            b.call(names[i], args[i]);
            b.refuses(1, "light", 100);
            b.gives(i + 1, "many", 6);
        }
        b.gives(7, "keep");
        for (int i = names.length - 1; i >= 0; i--) {
            b.gives(i, "undo");
            Bench.same(b.printed(), steps[i], "undo() back to " + i);
        }
        b.refuses(5, "undo");
    }

    private static void undoKeepsTwelve() {
        Bench b = Bench.of(PLATES);
        for (int back = 1; back <= 30; back++) {
            b.gives(back - 1, "light", back);
            b.gives(Math.min(back, 12), "many", 6);
        }
        for (int left = 11; left >= 0; left--) {
            b.gives(left, "undo");
        }
        b.gives(18, "many", 4);
        b.refuses(5, "undo");
        b.gives(18, "light", 50);
        b.gives(0, "undo");
        b.gives(18, "many", 4);
        b.gives(18, "light", 51);
        b.load(PLATES);
        b.refuses(5, "undo");
        b.gives(0, "many", 4);
    }
}
