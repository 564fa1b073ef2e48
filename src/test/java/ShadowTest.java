/** Promises 22 to 35, with numbers worked out by hand from the document's words. */
public final class ShadowTest {
    /** WHOLE 6 1 1 11 11 1 11; WEIGHTS -++-+--; the CELL 3 is LOST. */
    private static final String ROW7 =
        "plate a row 7;source 2 0 10;stray 0 0 5;lost 3 0;back 1;";

    public static void main(String[] args) {
        at();
        all();
        comingRound();
        peak();
        found();
        frames();
        filled();
        coarse();
        anti();
        keep();
        match();
        minus();
        shots();
        best();
        worst();
        Bench.end();
    }

    /** What of all CELLS of a row. */
    private static void row(Bench b, int what, int... want) {
        for (int x = 0; x < want.length; x++) {
            b.gives(want[x], "at", x, 0, what);
        }
    }

    private static void at() {
        Bench b = Bench.of(ROW7);
        row(b, 0, 6, 1, 1, 0, 11, 1, 11);
        row(b, 1, 6, 1, 1, 11, 11, 1, 11);
        row(b, 2, -5, -27, 13, 5, -5, 5, -17);
        row(b, 3, -11, 11, 11, -11, -11, -11, 11);
        row(b, 4, 1, -5, 5, 3, 1, 3, -2);
        row(b, 5, 0, 0, 10, 0, 0, 0, 0);
        b.refuses(1, "at", 0, 0, 6);
        b.refuses(1, "at", 0, 0, -1);
        b.refuses(1, "at", 9, 0, 6);
        b.refuses(2, "at", 7, 0, 0);
        b.refuses(2, "at", -1, 0, 0);
        b.refuses(2, "at", 0, 1, 4);
        b.refuses(2, "at", 0, -1, 0);
        new Bench().refuses(2, "at", 0, 0, 4);
        // PLATES that can't restore: one CELL, no HOLES, not FLAT, a PEAK like the other SIDES
        for (String form : new String[] {"bits #1", "set 4", "bits #1100", "bits #111"}) {
            b = Bench.of("plate a " + form + ";source 0 0 5;");
            b.refuses(5, "at", 0, 0, 4);
            b.gives(5, "at", 0, 0, 5);
            b.refuses(5, "all", 3);
            b.refuses(5, "found", -1, 0);
            b.refuses(5, "filled", 0);
            b.refuses(5, "worst", 0);
            b.refuses(5, "best", 0);
        }
        // square 3 with HOLES 1,0 2,0 1,1 2,2
        b = Bench.of("plate s square 3;source 1 2 7;source 1 2 1;source 0 0 2;");
        b.gives(10, "at", 2, 2, 0);
        b.gives(10, "at", 2, 0, 0);
        b.gives(8, "at", 0, 2, 0);
        b.gives(8, "at", 0, 1, 0);
        b.gives(2, "at", 1, 0, 0);
        b.gives(2, "at", 1, 1, 0);
        b.gives(0, "at", 0, 0, 0);
        b.gives(32, "at", 1, 2, 2);
        b.gives(8, "at", 0, 0, 2);
        b.gives(0, "at", 1, 1, 2);
        b.gives(8, "at", 1, 2, 4);
        b.gives(2, "at", 0, 0, 4);
        b.gives(8, "at", 1, 2, 5);
        b.gives(0, "all", 3);
    }

    private static void all() {
        Bench b = Bench.of(ROW7);
        int[] want = {31, 25, 8, 20, 1, 7, 11, 11};
        for (int what = 0; what < want.length; what++) {
            b.gives(want[what], "all", what);
        }
        b.refuses(1, "all", 8);
        b.refuses(1, "all", -1);
        new Bench().refuses(2, "all", 0);
        b = Bench.of("plate a set 3;source 0 0 5;stray 1 0 2;back 3;");
        b.gives(11, "all", 0);
        b.gives(2, "all", 1);
        b.refuses(5, "all", 2);
        b.refuses(5, "all", 3);
        // a LOST CELL without light moves nothing; a CELL that is told twice is LOST once
        b = Bench.of("plate a row 7;source 2 0 10;lost 2 0;lost 9 5;lost 16 1;");
        b.gives(1, "all", 4);
        b.gives(0, "all", 5);
        b.gives(0, "all", 6);
        b.gives(0, "all", 7);
        b.gives(0, "all", 3);
    }

    private static void comingRound() {
        Bench b = Bench.of("plate a row 7;source 9 31 10;stray 70 99 5;lost 94 17;back 1;");
        row(b, 0, 6, 1, 1, 0, 11, 1, 11);
        row(b, 5, 0, 0, 10, 0, 0, 0, 0);
        b.gives(9, "thing", 0, 0, 0);
        // what was seen is seen anew behind each ACT
        b.gives(0, "heal", 0);
        b.gives(11, "at", 3, 0, 0);
        b.gives(24, "at", 2, 0, 2);
        b.gives(0, "drop", 2, 0);
        b.gives(29, "at", 2, 0, 2);
        b.gives(1, "light", 0);
        b.gives(30, "at", 2, 0, 2);
        b.gives(1, "slide", 1, 0);
        b.gives(30, "at", 3, 0, 2);
        b.gives(0, "drop", 0, 0);
        b.gives(0, "at", 3, 0, 2);
        b.gives(4, "undo");
        b.gives(30, "at", 3, 0, 2);
    }

    private static void peak() {
        Bench b = Bench.of(ROW7);
        b.gives(2, "peak", 0);
        b.gives(0, "peak", 1);
        b.gives(13, "peak", 2);
        b.gives(1, "peak", 3);
        b.refuses(1, "peak", 4);
        b.refuses(1, "peak", -1);
        new Bench().refuses(2, "peak", 0);
        // of several the first, by y, then x
        b = Bench.of("plate s square 3;source 0 2 4;source 2 1 4;source 1 1 4;");
        b.gives(1, "peak", 0);
        b.gives(1, "peak", 1);
        b.gives(16, "peak", 2);
        b.gives(3, "peak", 3);
        b = Bench.of("plate a row 7;back 1;");
        b.gives(0, "peak", 0);
        b.gives(-1, "peak", 2);
        b.gives(7, "peak", 3);
    }

    private static void found() {
        Bench b = Bench.of(ROW7);
        int[][] want = {{2, 5}, {3, 2}, {5, 2}, {2, 2}};
        b.gives(4, "found", -1, 0);
        for (int k = 0; k < 4; k++) {
            b.gives(want[k][0], "found", k, 0);
            b.gives(0, "found", k, 1);
            b.gives(want[k][1], "found", k, 2);
        }
        b.refuses(5, "found", 4, 0);
        b.refuses(5, "found", 2147483647, 0);
        b.refuses(1, "found", -1, 1);
        b.refuses(1, "found", -2, 0);
        b.refuses(1, "found", 0, 3);
        b.refuses(1, "found", 0, -1);
        new Bench().refuses(2, "found", -1, 0);
        new Bench().refuses(1, "found", -2, 0);
        // none, and at most eight
        b = Bench.of("plate a row 7;back 9;");
        b.gives(0, "found", -1, 0);
        b.refuses(5, "found", 0, 0);
        StringBuilder nine = new StringBuilder("plate s square 5;");
        for (int k = 0; k < 8; k++) {
            nine.append("source ").append(k % 5).append(' ').append(k / 5).append(" 50;");
        }
        b = Bench.of(nine.toString());
        b.gives(8, "found", -1, 0);
        b.gives(1, "found", 5, 1);
        b.gives(2, "found", 7, 0);
        b.gives(50, "found", 7, 2);
    }

    private static void frames() {
        Bench b = Bench.of(ROW7);
        b.gives(13, "frames", 1, 1, 2, 0);
        b.gives(48, "frames", 2, 1, 2, 0);
        b.gives(48, "frames", 2, 99, 2, 0);
        b.gives(26, "frames", 2, 7, 2, 0);
        b.gives(20 * 13, "frames", 20, 14, 2, 0);
        b.refuses(1, "frames", 0, 1, 2, 0);
        b.refuses(1, "frames", 21, 1, 2, 0);
        b.refuses(1, "frames", 1, 0, 2, 0);
        b.refuses(1, "frames", 1, 100, 2, 0);
        b.refuses(1, "frames", 1, 100, 9, 0);
        b.refuses(2, "frames", 1, 1, 7, 0);
        b.refuses(2, "frames", 1, 1, -1, 0);
        b.refuses(2, "frames", 1, 1, 0, 1);
        new Bench().refuses(2, "frames", 1, 1, 0, 0);
    }

    private static void filled() {
        Bench b = Bench.of(ROW7);
        b.gives(10, "filled", 0);
        b.gives(3, "filled", 1);
        b.gives(0, "heal", 0);
        b.gives(0, "filled", 1);
        b.gives(b.call("all", 3), "filled", 0);
        b.refuses(1, "filled", 2);
        b.refuses(1, "filled", -1);
        new Bench().refuses(2, "filled", 0);
        new Bench().refuses(1, "filled", 2);
    }

    private static void coarse() {
        // SHADOWS 4 4 1 1 1 1
        Bench b = Bench.of("plate a bits #110000;plate b bits #11;plate c both a b;plate d bits #1;"
            + "source 0 0 3;back 1;");
        b.gives(8, "coarse", 2, 0);
        b.gives(2, "coarse", 2, 1);
        b.gives(2, "coarse", 2, 2);
        b.refuses(5, "coarse", 2, 3);
        b.gives(9, "coarse", 3, 0);
        b.gives(3, "coarse", 3, 1);
        b.gives(12, "coarse", 6, 0);
        b.refuses(5, "coarse", 6, 1);
        b.refuses(5, "coarse", 4, 0);
        b.refuses(5, "coarse", 12, 0);
        b.refuses(5, "coarse", 2147483647, 2147483647);
        b.refuses(1, "coarse", 1, 0);
        b.refuses(1, "coarse", 0, 0);
        b.refuses(1, "coarse", -6, 0);
        b.refuses(1, "coarse", 2, -1);
        new Bench().refuses(2, "coarse", 2, 0);
        new Bench().refuses(1, "coarse", 1, 0);
        // by y, then x; a LOST CELL gives nothing
        b.gives(0, "use", 2);
        b.gives(1, "lose", 1, 1);
        b.gives(9, "coarse", 3, 0);
        b.gives(3, "coarse", 3, 1);
        b.gives(5, "coarse", 3, 2);
        b.gives(3, "coarse", 3, 3);
        b.refuses(5, "coarse", 3, 4);
        b.gives(2, "use", 3);
        b.refuses(5, "coarse", 2, 0);
    }

    private static void anti() {
        Bench b = Bench.of(ROW7);
        b.gives(60, "anti", 2, 0);
        b.gives(0, "anti", 3, 0);
        b.gives(0, "heal", 0);
        b.gives(70, "anti", 2, 0);
        b.gives(-10, "anti", 3, 0);
        b.refuses(2, "anti", 7, 0);
        b.refuses(2, "anti", -1, 0);
        b.refuses(2, "anti", 0, 1);
        new Bench().refuses(2, "anti", 0, 0);
    }

    private static void keep() {
        Bench b = Bench.of(ROW7 + "plate b row 5;");
        b.gives(7, "keep");
        b.gives(0, "minus", 2, 0);
        b.gives(0, "use", 1);
        b.refuses(5, "minus", 2, 0);
        b.gives(5, "keep");
        b.gives(0, "minus", 2, 0);
        // it is no ACT
        b.gives(1, "many", 6);
        new Bench().refuses(2, "keep");
        b.load(ROW7);
        b.refuses(5, "match", 0);
    }

    private static void match() {
        Bench b = Bench.of("plate s square 3;plate t bits #111111111;plate u neg s;source 0 0 5;");
        b.refuses(5, "match", 0);
        b.gives(9, "keep");
        b.gives(0, "match", 0);
        b.gives(1, "slide", 1, 2);
        b.gives(1, "match", 0);
        b.gives(2, "match", 1);
        b.gives(100, "match", 2);
        b.refuses(1, "match", 3);
        b.refuses(1, "match", -1);
        // as many CELLS, but another size
        b.gives(0, "use", 1);
        b.refuses(5, "match", 0);
        b.gives(1, "use", 2);
        b.gives(0, "match", 1);
        // of several the first
        b = Bench.of("plate s square 3;back 2;");
        b.gives(9, "keep");
        b.gives(0, "match", 0);
        b.gives(0, "match", 1);
        b.gives(36, "match", 2);
        // more than an int has: 144 times the square of 7992 and more
        StringBuilder bright = new StringBuilder("plate s square 17;");
        for (int k = 0; k < 8; k++) {
            bright.append("source 3 4 999;");
        }
        b = Bench.of(bright.toString());
        b.gives(289, "keep");
        b.gives(144L * 7992 * 7992, "match", 2);
        new Bench().refuses(2, "match", 0);
        new Bench().refuses(1, "match", 3);
    }

    private static void minus() {
        Bench b = Bench.of("plate a row 7;source 2 0 10;back 1;");
        b.refuses(5, "minus", 2, 0);
        b.refuses(2, "minus", 7, 0);
        b.refuses(2, "minus", 0, -1);
        b.gives(7, "keep");
        b.gives(0, "minus", 2, 0);
        b.gives(1, "add", 0, 4, 0, 3);
        b.gives(9, "minus", 4, 0);
        b.gives(-3, "minus", 2, 0);
        b.gives(1, "lose", 3, 0);
        // SHADOW 3 was 11, and is 0
        b.gives(9 + 11, "minus", 4, 0);
        new Bench().refuses(2, "minus", 0, 0);
    }

    private static void shots() {
        Bench b = Bench.of("plate a bits #10;source 0 0 1;");
        b.gives(5, "shots", 5, 1, 0);
        b.gives(0, "shots", 5, 1, 1);
        b.gives(0, "shots", 5, 1, 2);
        b.gives(5, "shots", 5, 1, 3);
        b.gives(500, "shots", 500, 65536, 3);
        b.gives(1, "lose", 0, 0);
        b.gives(0, "shots", 5, 1, 0);
        b.gives(0, "shots", 5, 1, 3);
        // 48271, 182605794, 1291394886, 1914720637, 2078669041, 407355683: CELLS 1 0 0 1 1 1
        b = Bench.of("plate a bits #10;back 1;");
        b.gives(1, "shots", 1, 1, 1);
        b.gives(1, "shots", 1, 1, 3);
        b.gives(0, "shots", 2, 1, 1);
        b.gives(0, "shots", 2, 1, 3);
        b.gives(0, "shots", 3, 1, 1);
        b.gives(1, "shots", 3, 1, 3);
        b.gives(1, "shots", 6, 1, 1);
        b.gives(2, "shots", 6, 1, 3);
        b.gives(1, "lose", 1, 0);
        b.gives(2, "shots", 6, 1, 0);
        b.gives(0, "shots", 6, 1, 1);
        b.gives(2, "shots", 6, 1, 3);
        b.refuses(1, "shots", 0, 1, 0);
        b.refuses(1, "shots", 501, 1, 0);
        b.refuses(1, "shots", 1, 0, 0);
        b.refuses(1, "shots", 1, 65537, 0);
        b.refuses(1, "shots", 1, -1, 0);
        b.refuses(1, "shots", 1, 1, 4);
        b.refuses(1, "shots", 1, 1, -1);
        new Bench().refuses(2, "shots", 1, 1, 0);
        Bench.of("plate a set 3;source 0 0 9;").refuses(5, "shots", 1, 1, 0);
        // WHOLE counts, so a LOST CELL has its numbers
        Bench.of("plate a bits #1;back 1;lost 0 0;").gives(0, "shots", 9, 1, 0);
    }

    private static void best() {
        Bench b = Bench.of("plate z bits #1;" + ROW7 + "plate b set 7 1 2 4;plate c bits #10;");
        b.gives(3, "best", 0);
        b.gives(6, "best", 1);
        b.gives(0, "many", 5);
        b.gives(0, "use", 1);
        b.gives(20, "all", 3);
        b = Bench.of("plate z bits #1;" + ROW7 + "plate b set 7 1 2 4;");
        b.gives(1, "best", 0);
        b.gives(20, "best", 1);
        b.refuses(1, "best", 2);
        b.refuses(1, "best", -1);
        new Bench().refuses(5, "best", 0);
        new Bench().refuses(1, "best", 2);
        Bench.of("plate z bits #1;plate y set 4;").refuses(5, "best", 0);
    }

    private static void worst() {
        Bench b = Bench.of("plate a row 7;source 2 0 10;");
        b.gives(3, "worst", 0);
        b.gives(0, "worst", 1);
        b.gives(16, "worst", 2);
        b.gives(0, "many", 2);
        b.gives(0, "all", 3);
        b.gives(1, "lose", 3, 0);
        b.gives(16, "all", 3);
        long dark = b.call("worst", 2);
        b.gives(2, "lose", (int) b.call("worst", 0), 0);
        b.gives(dark, "all", 3);
        b.refuses(1, "worst", 3);
        b.refuses(1, "worst", -1);
        new Bench().refuses(2, "worst", 0);
        new Bench().refuses(1, "worst", 3);
        b = Bench.of("plate a bits #10;source 0 0 6;lost 0 0;");
        b.gives(1, "worst", 0);
        b.gives(2, "lose", 1, 0);
        b.refuses(5, "worst", 0);
        b.refuses(5, "worst", 2);
        // by y, then x the first
        b = Bench.of("plate s square 3;source 0 0 90;");
        b.gives(1, "worst", 0);
        b.gives(0, "worst", 1);
    }
}
