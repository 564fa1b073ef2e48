/** The edges of SHADOWS, DECODED, RESTORED, ERROR, LOST CELLS: promises 22 to 24. */
public final class EdgeSeenTest {
    private static final int LEAST = Integer.MIN_VALUE;
    private static final int MOST = Integer.MAX_VALUE;
    /** WHOLE 6 1 1 11 11 1 11; WEIGHTS -++-+--; the CELL 3 is LOST. */
    private static final String ROW7 =
        "plate a row 7;source 2 0 10;stray 0 0 5;lost 3 0;back 1;";
    /** All that can't restore: one CELL, no HOLES, not FLAT, a PEAK like the other SIDES. */
    static final String[] BLIND = {"bits #1", "bits #0", "set 4", "set 2", "bits #1100",
        "bits #11", "set 5 0 1 2 3 4"};

    public static void main(String[] args) {
        comingRound();
        lostComingRound();
        shadow();
        shadowMost();
        shadowLost();
        whole();
        decoded();
        moved();
        truth();
        restoredRoundsDown();
        restoredTwoCells();
        restoredNegativeSide();
        canNotRestore();
        light();
        byHoles();
        error();
        at();
        atRefused();
        all();
        allLostOnce();
        allMoved();
        allRefused();
        peakFirst();
        peakMany();
        peakRefused();
        seenAnew();
        Bench.end();
    }

    private static void row(Bench b, int what, int... want) {
        for (int x = 0; x < want.length; x++) {
            b.gives(want[x], "at", x, 0, what);
        }
    }

    private static void comingRound() {
        Bench.says("The BENCH uses one PLATE; SOURCES, LOST, STRAYS lie on its CELLS (coming "
            + "round).");
        // 99 is 1 by 7, 98 is 0; 7 itself is 0
        row(Bench.of("plate a set 7 0;source 99 99 5;"), 0, 0, 5, 0, 0, 0, 0, 0);
        row(Bench.of("plate a set 7 0;source 98 1 5;"), 0, 5, 0, 0, 0, 0, 0, 0);
        row(Bench.of("plate a set 7 0;source 7 0 5;"), 0, 5, 0, 0, 0, 0, 0, 0);
        row(Bench.of("plate a set 7 0;source 6 0 5;"), 0, 0, 0, 0, 0, 0, 0, 5);
        row(Bench.of("plate a set 7 6;source 6 0 5;"), 0, 0, 0, 0, 0, 0, 5, 0);
        row(Bench.of("plate a set 7;stray 99 99 5;"), 0, 0, 5, 0, 0, 0, 0, 0);
        row(Bench.of("plate a set 7;stray 7 5 5;stray 14 0 1;"), 0, 6, 0, 0, 0, 0, 0, 0);
        // y, too: 99 is 0 by 3, 98 is 2
        Bench b = Bench.of("plate s square 3;stray 98 99 5;stray 99 98 7;");
        b.gives(5, "at", 2, 0, 0);
        b.gives(7, "at", 0, 2, 0);
        b.gives(12, "all", 0);
        b = Bench.of("plate s square 3;source 98 99 5;");
        // HOLES 1,0 2,0 1,1 2,2 from 2,0 on
        b.gives(5, "at", 0, 0, 0);
        b.gives(5, "at", 1, 0, 0);
        b.gives(5, "at", 0, 1, 0);
        b.gives(5, "at", 1, 2, 0);
        b.gives(20, "all", 0);
        // on another PLATE they lie elsewhere
        b = Bench.of("plate a set 7 0;plate b set 5 0;source 6 0 5;lost 6 0;");
        b.gives(0, "at", 6, 0, 0);
        b.gives(5, "at", 6, 0, 1);
        b.gives(0, "use", 1);
        b.gives(5, "at", 1, 0, 1);
        b.gives(0, "at", 1, 0, 0);
    }

    private static void lostComingRound() {
        Bench.says("SOURCES, LOST, STRAYS lie on its CELLS (coming round).");
        row(Bench.of("plate a set 7;back 1;lost 99 99;"), 0, 1, 0, 1, 1, 1, 1, 1);
        row(Bench.of("plate a set 7;back 1;lost 7 0;lost 6 5;"), 0, 0, 1, 1, 1, 1, 1, 0);
        Bench b = Bench.of("plate s square 3;back 1;lost 98 99;");
        b.gives(0, "at", 2, 0, 0);
        b.gives(8, "all", 0);
    }

    private static void shadow() {
        Bench.says("BACK; COUNTS of each SOURCE (at a, b) for which x less a, y less b is a HOLE; "
            + "COUNTS of each STRAY there: added.");
        row(Bench.of("plate a bits #1100;back 1;"), 0, 1, 1, 1, 1);
        row(Bench.of("plate a bits #1100;source 1 0 5;"), 0, 0, 5, 5, 0);
        row(Bench.of("plate a bits #1100;source 3 0 5;"), 0, 5, 0, 0, 5);
        row(Bench.of("plate a bits #1100;stray 1 0 5;"), 0, 0, 5, 0, 0);
        row(Bench.of("plate a bits #1100;source 1 0 5;source 2 0 7;source 1 0 1;stray 1 0 10;"
            + "stray 1 0 20;back 99;"), 0, 99, 135, 112, 106);
        row(Bench.of("plate a bits #0000;source 1 0 5;"), 0, 0, 0, 0, 0);
        row(Bench.of("plate a bits #1111;source 1 0 5;"), 0, 5, 5, 5, 5);
        row(Bench.of("plate a bits #1101;"), 0, 0, 0, 0, 0);
    }

    private static void shadowMost() {
        Bench.says("COUNTS of each STRAY there: added.");
        String most = "source 0 0 999;".repeat(8) + "stray 0 0 999;".repeat(8) + "back 99;";
        Bench b = Bench.of("plate a bits #1;" + most);
        b.gives(16 * 999 + 99, "at", 0, 0, 0);
        b.gives(16 * 999 + 99, "at", 0, 0, 2);
        b.gives(8 * 999, "at", 0, 0, 5);
        b = Bench.of("plate a set 17;plate b both a a;" + most + "use b;");
        b.gives(289 * (8 * 999 + 99) + 8 * 999, "all", 0);
        b.gives(289 * (8 * 999 + 99) + 8 * 999, "at", 16, 16, 2);
        b.gives(289 * 8 * 999 + 8 * 999, "all", 1);
    }

    private static void shadowLost() {
        Bench.says("SHADOW of a CELL x, y (0 if one of LOST is there)");
        row(Bench.of("plate a bits #1100;source 1 0 5;stray 1 0 7;back 9;lost 1 0;"), 0, 9, 0, 14,
            9);
        row(Bench.of("plate a bits #1100;back 9;lost 0 0;lost 1 0;lost 2 0;lost 3 0;"), 0, 0, 0, 0,
            0);
        // as many as there may be, told once for each CELL
        StringBuilder text = new StringBuilder("plate a set 13 0;back 3;");
        for (int x = 0; x < 12; x++) {
            text.append("lost ").append(x).append(" 0;");
        }
        Bench b = Bench.of(text.toString());
        b.gives(0, "at", 11, 0, 0);
        b.gives(3, "at", 12, 0, 0);
        b.gives(3, "all", 0);
        b.gives(12, "all", 4);
    }

    private static void whole() {
        Bench.says("WHOLE: SHADOW as if none was LOST.");
        row(Bench.of("plate a bits #1100;source 1 0 5;stray 1 0 7;back 9;lost 1 0;"), 1, 9, 21, 14,
            9);
        row(Bench.of("plate a bits #1100;source 1 0 5;stray 1 0 7;back 9;"), 1, 9, 21, 14, 9);
    }

    private static void decoded() {
        Bench.says("DECODED at x, y: SHADOW of each CELL u, v times the WEIGHT at u less x, v less "
            + "y, added.");
        // one CELL with light: the WEIGHTS the other way round from it on
        row(Bench.of("plate a bits #1100;stray 0 0 5;"), 2, 5, -5, -5, 5);
        row(Bench.of("plate a bits #1100;stray 3 0 5;"), 2, -5, -5, 5, 5);
        row(Bench.of("plate a bits #1100;back 5;"), 2, 0, 0, 0, 0);
        row(Bench.of("plate a bits #1101;back 5;"), 2, 10, 10, 10, 10);
        row(Bench.of("plate a bits #0;back 5;"), 2, -5);
        Bench b = Bench.of("plate s square 3;stray 1 2 5;");
        // WEIGHTS +++/-+-/--+
        int[][] want = {{-5, -5, 5}, {5, -5, -5}, {5, 5, 5}};
        for (int y = 0; y < 3; y++) {
            for (int x = 0; x < 3; x++) {
                b.gives(want[y][x], "at", x, y, 2);
            }
        }
    }

    private static void moved() {
        Bench.says("MOVED at x, y: DECODED by WHOLE less DECODED.");
        row(Bench.of("plate a bits #1100;stray 0 0 5;"), 3, 0, 0, 0, 0);
        row(Bench.of("plate a bits #1100;stray 0 0 5;lost 1 0;"), 3, 0, 0, 0, 0);
        row(Bench.of("plate a bits #1100;stray 0 0 5;lost 0 0;"), 3, 5, -5, -5, 5);
        row(Bench.of("plate a bits #1100;stray 0 0 5;lost 0 0;lost 4 0;"), 3, 5, -5, -5, 5);
        row(Bench.of(ROW7), 3, -11, 11, 11, -11, -11, -11, 11);
    }

    private static void truth() {
        Bench.says("TRUE at x, y: COUNTS of SOURCES there, added.");
        row(Bench.of("plate a bits #1100;source 1 0 5;source 5 3 7;source 3 0 1;stray 1 0 9;"
            + "back 9;lost 1 0;"), 5, 0, 12, 0, 1);
        row(Bench.of("plate a bits #1100;"), 5, 0, 0, 0, 0);
        Bench b = Bench.of("plate s square 3;source 98 99 5;source 2 3 6;");
        b.gives(11, "at", 2, 0, 5);
        b.gives(0, "at", 0, 2, 5);
    }

    private static void restoredRoundsDown() {
        Bench.says("by the PEAK less that other SIDE, rounded down.");
        // PEAK 1, SIDE -1: with CELL 0 LOST it is minus BACK by 2 at 0, SHADOW less that at 1
        row(Bench.of("plate a bits #10;lost 0 0;back 1;"), 4, -1, 0);
        row(Bench.of("plate a bits #10;lost 0 0;back 2;"), 4, -1, 1);
        row(Bench.of("plate a bits #10;lost 0 0;back 3;"), 4, -2, 1);
        row(Bench.of("plate a bits #10;lost 0 0;back 99;"), 4, -50, 49);
        row(Bench.of("plate a bits #10;lost 0 0;"), 4, 0, 0);
        row(Bench.of(ROW7), 4, 1, -5, 5, 3, 1, 3, -2);
    }

    private static void restoredTwoCells() {
        Bench.says("RESTORED at x, y (of a FLAT PLATE of two CELLS or more with HOLES, whose PEAK "
            + "is not its other SIDES)");
        row(Bench.of("plate a bits #10;source 0 0 5;source 1 0 7;back 9;"), 4, 5, 7);
        row(Bench.of("plate a bits #01;source 0 0 5;source 1 0 7;back 9;"), 4, 5, 7);
        row(Bench.of("plate a bits #110;source 0 0 5;source 2 0 7;back 9;"), 4, 5, 0, 7);
        row(Bench.of("plate a set 47 0;source 46 0 999;back 99;"), 4, 0, 0, 0);
        Bench b = Bench.of("plate a set 47 0;source 46 0 999;back 99;");
        b.gives(999, "at", 46, 0, 4);
        // two CELLS one above the other
        b = Bench.of("plate e bits #1;plate a bits #10;plate c both e a;source 0 1 5;use c;");
        b.gives(0, "at", 0, 0, 4);
        b.gives(5, "at", 0, 1, 4);
        b.gives(0, "all", 3);
        b = Bench.of("plate s square 17;source 16 16 999;source 0 16 1;back 99;");
        b.gives(999, "at", 16, 16, 4);
        b.gives(1, "at", 0, 16, 4);
        b.gives(0, "at", 16, 0, 4);
        b.gives(0, "all", 3);
    }

    private static void restoredNegativeSide() {
        Bench.says("RESTORED: DECODED, less that other SIDE times S, less BACK times all WEIGHTS "
            + "added");
        // PEAK 1, SIDE -1, HOLES 3, WEIGHTS --++-: LIGHT 4 by 3 HOLES is 1
        Bench b = Bench.of("plate a row 5;plate b neg a;stray 0 0 4;use b;");
        b.gives(1, "all", 2);
        row(b, 2, -4, -4, 4, 4, -4);
        row(b, 4, -2, -2, 2, 2, -2);
        b.gives(10, "all", 3);
        // SIDE 1: bits #1101, LIGHT 7 by 3 HOLES is 2, BACK 5, WEIGHTS 2
        b = Bench.of("plate a bits #1101;stray 0 0 7;back 5;");
        b.gives(2, "all", 2);
        row(b, 2, 17, 17, 3, 17);
        row(b, 4, 2, 2, -5, 2);
    }

    private static void canNotRestore() {
        Bench.says("(of a FLAT PLATE of two CELLS or more with HOLES, whose PEAK is not its other "
            + "SIDES)");
        for (String form : BLIND) {
            Bench b = Bench.of("plate a " + form + ";source 0 0 5;back 1;");
            b.refuses(5, "at", 0, 0, 4);
            b.refuses(5, "all", 3);
            b.gives(5, "at", 0, 0, 5);
        }
        // not FLAT in the last SIDE alone
        Bench b = Bench.of("plate a bits #10;plate b both a a;use b;");
        b.refuses(5, "at", 0, 0, 4);
    }

    private static void light() {
        Bench.says("LIGHT: all SHADOWS added, less BACK times CELLS that are not LOST");
        Bench.of("plate a bits #1100;back 7;").gives(0, "all", 1);
        Bench.of("plate a bits #1100;back 7;lost 0 0;").gives(0, "all", 1);
        Bench.of("plate a bits #1100;back 7;lost 0 0;lost 4 0;lost 1 0;").gives(0, "all", 1);
        Bench.of("plate a bits #1100;back 7;source 0 0 5;lost 0 0;").gives(5, "all", 1);
        Bench.of("plate a bits #1100;back 7;source 0 0 5;stray 0 0 3;").gives(13, "all", 1);
        Bench b = Bench.of("plate a bits #10;back 7;source 0 0 5;lost 0 0;lost 1 0;");
        b.gives(0, "all", 1);
        b.gives(0, "all", 2);
        b.gives(0, "all", 0);
    }

    private static void byHoles() {
        Bench.says("S: LIGHT by HOLES, rounded down");
        for (int counts = 1; counts <= 7; counts++) {
            Bench.of("plate a row 7;stray 0 0 " + counts + ";").gives(counts / 3, "all", 2);
        }
        Bench.of("plate a row 7;").gives(0, "all", 2);
        Bench.says("2: S (5: the PLATE has no HOLE)");
        Bench.of("plate a set 1;back 1;").refuses(5, "all", 2);
        Bench.of("plate a set 47;back 1;").refuses(5, "all", 2);
        // one that can't restore, but has a HOLE
        Bench.of("plate a bits #1;source 0 0 4;").gives(4, "all", 2);
        Bench.of("plate a bits #1100;source 0 0 4;").gives(4, "all", 2);
    }

    private static void error() {
        Bench.says("ERROR: of all places how far RESTORED and TRUE are apart, added.");
        Bench.of("plate a row 7;").gives(0, "all", 3);
        Bench.of("plate a row 7;source 2 0 10;back 9;").gives(0, "all", 3);
        Bench.of(ROW7).gives(20, "all", 3);
        // below and above: -2 and 1 where 0 and 0 are true
        Bench.of("plate a bits #10;lost 0 0;back 3;").gives(3, "all", 3);
        Bench.of("plate a bits #10;lost 0 0;source 0 0 8;").gives(8, "all", 3);
    }

    private static void at() {
        Bench.says("At a CELL, what 0: SHADOW, 1: WHOLE, 2: DECODED, 3: MOVED, 4: RESTORED, 5: "
            + "TRUE");
        Bench b = Bench.of(ROW7);
        row(b, 0, 6, 1, 1, 0, 11, 1, 11);
        row(b, 1, 6, 1, 1, 11, 11, 1, 11);
        row(b, 2, -5, -27, 13, 5, -5, 5, -17);
        row(b, 4, 1, -5, 5, 3, 1, 3, -2);
        row(b, 5, 0, 0, 10, 0, 0, 0, 0);
    }

    private static void atRefused() {
        Bench.says("(1; 2: x, y not on the PLATE, or no PLATE; 5 of 4: the PLATE can't restore); "
            + "STATUS tells NONE from -1.");
        Bench b = Bench.of("plate a bits #10;plate b bits #110;plate c both a b;use c;lost 1 2;");
        for (int what : new int[] {LEAST, -1, 6, MOST}) {
            b.refuses(1, "at", 0, 0, what);
            b.refuses(1, "at", 2, 0, what);
            new Bench().refuses(1, "at", 0, 0, what);
        }
        for (int x : new int[] {LEAST, -1, 2, MOST}) {
            b.refuses(2, "at", x, 0, 0);
            b.refuses(2, "at", x, 0, 4);
        }
        for (int y : new int[] {LEAST, -1, 3, MOST}) {
            b.refuses(2, "at", 0, y, 0);
            b.refuses(2, "at", 0, y, 4);
        }
        for (int what = 0; what <= 5; what++) {
            if (what == 4) {
                b.refuses(5, "at", 1, 2, what);
            } else {
                b.gives(0, "at", 1, 2, what);
            }
            new Bench().refuses(2, "at", 0, 0, what);
        }
        // -1 that is none
        Bench.of("plate a bits #0;back 1;").gives(-1, "at", 0, 0, 2);
        Bench.of("plate a bits #10;lost 0 0;back 1;").gives(-1, "at", 0, 0, 4);
    }

    private static void all() {
        Bench.says("What 0: all SHADOWS added, 1: LIGHT");
        Bench b = Bench.of(ROW7);
        int[] want = {31, 25, 8, 20, 1, 7, 11, 11};
        for (int what = 0; what <= 7; what++) {
            b.gives(want[what], "all", what);
        }
        b = Bench.of("plate a row 7;");
        for (int what = 0; what <= 7; what++) {
            b.gives(0, "all", what);
        }
    }

    private static void allLostOnce() {
        Bench.says("4: CELLS that are LOST (each once)");
        Bench.of("plate a row 7;").gives(0, "all", 4);
        Bench.of("plate a row 7;lost 0 0;").gives(1, "all", 4);
        Bench.of("plate a row 7;lost 0 0;lost 0 0;lost 7 0;lost 0 1;lost 98 99;").gives(1, "all", 4);
        Bench.of("plate a row 7;lost 0 0;lost 1 0;").gives(2, "all", 4);
        Bench.of("plate a bits #1;lost 0 0;lost 9 9;").gives(1, "all", 4);
        Bench.says("7: WHOLE of CELLS that are LOST, added");
        Bench.of("plate a row 7;back 5;lost 0 0;lost 7 1;lost 1 0;").gives(10, "all", 7);
        Bench.of("plate a row 7;back 5;").gives(0, "all", 7);
        Bench.of("plate a bits #10;source 0 0 9;back 5;lost 0 0;lost 1 0;").gives(19, "all", 7);
    }

    private static void allMoved() {
        Bench.says("5: places where MOVED is not 0, 6: the greatest MOVED, without sign");
        // a LOST CELL without light moves nothing
        Bench b = Bench.of("plate a row 7;source 2 0 10;lost 2 0;");
        b.gives(0, "all", 5);
        b.gives(0, "all", 6);
        // two LOST CELLS take from each other: WHOLE 5 and 7, WEIGHTS +-
        b = Bench.of("plate a bits #10;stray 0 0 5;stray 1 0 5;lost 0 0;lost 1 0;");
        b.gives(0, "all", 5);
        b.gives(0, "all", 6);
        b = Bench.of("plate a bits #10;stray 0 0 5;stray 1 0 7;lost 0 0;lost 1 0;");
        b.gives(2, "all", 5);
        b.gives(2, "all", 6);
        // MOVED 0 at some places: 1100 with 0 and 1 LOST
        b = Bench.of("plate a bits #1100;stray 0 0 5;stray 1 0 5;lost 0 0;lost 1 0;");
        b.gives(2, "all", 5);
        b.gives(10, "all", 6);
        // the greatest at the first place alone, at the last alone
        Bench.of("plate a bits #100;stray 1 0 5;stray 2 0 5;lost 1 0;lost 2 0;").gives(10, "all", 6);
        Bench.of("plate a bits #100;stray 0 0 5;stray 1 0 5;lost 0 0;lost 1 0;").gives(10, "all", 6);
        Bench.of("plate a bits #1;back 5;lost 0 0;").gives(5, "all", 6);
        Bench.of("plate a bits #0;back 5;lost 0 0;").gives(1, "all", 5);
        // the greatest is one below 0
        b = Bench.of("plate a bits #100;stray 0 0 5;stray 1 0 5;lost 0 0;lost 1 0;");
        b.gives(1, "all", 5);
        b.gives(10, "all", 6);
    }

    private static void allRefused() {
        Bench.says("7: WHOLE of CELLS that are LOST, added (1; 2: no PLATE); STATUS tells NONE "
            + "from -1.");
        for (int what : new int[] {LEAST, -1, 8, MOST}) {
            Bench.of(ROW7).refuses(1, "all", what);
            new Bench().refuses(1, "all", what);
            Bench.of("plate a set 4;").refuses(1, "all", what);
        }
        for (int what = 0; what <= 7; what++) {
            new Bench().refuses(2, "all", what);
        }
        Bench.says("3: ERROR (5: it can't restore)");
        for (String form : BLIND) {
            Bench b = Bench.of("plate a " + form + ";back 2;lost 0 0;");
            b.refuses(5, "all", 3);
            b.gives(1, "all", 4);
            b.gives(2, "all", 7);
        }
    }

    private static void peakFirst() {
        Bench.says("The place with the greatest DECODED (of several the first, by y, then x), what "
            + "0: x, 1: y, 2: DECODED there");
        String[] sources = {"source 2 0 4;source 1 0 4;", "source 0 1 4;source 2 0 4;",
            "source 0 2 4;source 2 1 4;", "source 2 2 4;", "source 0 0 3;source 2 2 4;"};
        int[][] want = {{1, 0}, {2, 0}, {2, 1}, {2, 2}, {2, 2}};
        for (int i = 0; i < sources.length; i++) {
            Bench b = Bench.of("plate s square 3;" + sources[i]);
            b.gives(want[i][0], "peak", 0);
            b.gives(want[i][1], "peak", 1);
            b.gives(16, "peak", 2);
        }
        // all alike, below 0, too
        Bench b = Bench.of("plate a row 7;back 1;");
        b.gives(0, "peak", 0);
        b.gives(0, "peak", 1);
        b.gives(-1, "peak", 2);
        b.gives(7, "peak", 3);
        b = Bench.of("plate a bits #0;back 9;");
        b.gives(-9, "peak", 2);
        b.gives(1, "peak", 3);
    }

    private static void peakMany() {
        Bench.says("3: at how many places it is so");
        Bench.of("plate s square 3;source 2 0 4;").gives(1, "peak", 3);
        Bench.of("plate s square 3;source 2 0 4;source 1 2 4;").gives(2, "peak", 3);
        Bench.of("plate s square 3;source 2 0 4;source 1 2 4;source 0 0 3;").gives(2, "peak", 3);
        Bench.of("plate s square 3;").gives(9, "peak", 3);
        Bench.of("plate a bits #1;source 0 0 1;").gives(1, "peak", 3);
    }

    private static void peakRefused() {
        Bench.says("3: at how many places it is so (1; 2: no PLATE); STATUS tells NONE from -1.");
        for (int what : new int[] {LEAST, -1, 4, MOST}) {
            Bench.of(ROW7).refuses(1, "peak", what);
            new Bench().refuses(1, "peak", what);
        }
        for (int what = 0; what <= 3; what++) {
            new Bench().refuses(2, "peak", what);
        }
    }

    /** What has been seen is seen anew behind each ACT, undo() and load(). */
    private static void seenAnew() {
        Bench.says("The BENCH uses one PLATE");
        Bench b = Bench.of("plate a bits #10;plate b bits #01;");
        b.gives(0, "at", 0, 0, 2);
        b.gives(0, "add", 0, 0, 0, 8);
        b.gives(8, "at", 0, 0, 2);
        b.gives(0, "add", 2, 1, 0, 3);
        b.gives(5, "at", 0, 0, 2);
        b.gives(1, "lose", 1, 0);
        b.gives(8, "at", 0, 0, 2);
        b.gives(0, "light", 2);
        b.gives(10, "at", 0, 0, 2);
        b.gives(0, "use", 1);
        b.gives(-2, "at", 0, 0, 2);
        b.gives(1, "slide", 1, 0);
        b.gives(-10, "at", 0, 0, 2);
        b.gives(0, "heal", 0);
        b.gives(-5, "at", 0, 0, 2);
        b.gives(0, "drop", 2, 0);
        b.gives(-8, "at", 0, 0, 2);
        b.gives(0, "drop", 0, 0);
        b.gives(0, "at", 0, 0, 2);
        int[] back = {-8, -5, -10, -2, 10, 8, 5, 8, 0};
        for (int i = 0; i < back.length; i++) {
            b.gives(back.length - 1 - i, "undo");
            b.gives(back[i], "at", 0, 0, 2);
        }
        b.load("plate a bits #10;stray 0 0 9;");
        b.gives(9, "at", 0, 0, 2);
        // by a FAULT nothing is another
        b.load("plate a bits #01;stray 0 0 9");
        b.gives(9, "at", 0, 0, 2);
    }
}
