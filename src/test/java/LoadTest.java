/** Promises 1 to 6: a new object, status, feed, load with its FAULTS, fault, many. */
public final class LoadTest {
    private static final String ROW7 = "plate a row 7;";

    public static void main(String[] args) {
        newObject();
        status();
        feed();
        load();
        loadIsForm();
        faultTokens();
        faultEnds();
        faultNumbers();
        faultNames();
        faultTooMany();
        firstFault();
        fault();
        many();
        Bench.end();
    }

    private static void newObject() {
        Bench b = new Bench();
        Bench.same(b.status(), 0, "STATUS of a new object");
        for (int what = 0; what <= 4; what++) {
            b.gives(0, "many", what);
        }
        b.refuses(5, "many", 5);
        b.gives(0, "many", 6);
        b.refuses(2, "plate", 0, 0);
        b.refuses(5, "out", 0);
        Bench.same(b.printed(), "back 0;", "print() of a new object");
        Bench.same(MaskBench.NONE, -1, "NONE");
        // a scene without a PLATE
        b.gives(0, "add", 0, 1, 2, 3);
        b.gives(1, "lose", 1, 2);
        b.gives(0, "light", 4);
        b.refuses(2, "use", 0);
        b.refuses(2, "at", 0, 0, 0);
        Bench.same(b.printed(), "source 1 2 3;lost 1 2;back 4;", "print() without a PLATE");
    }

    private static void status() {
        Bench b = Bench.of(ROW7);
        b.refuses(1, "many", 9);
        b.call("feed", 1, 2, 3, 4, 5);
        b.call("fault", 0);
        b.call("status");
        Bench.same(b.status(), 1, "STATUS behind calls that have none");
        b.gives(1, "many", 0);
        Bench.same(b.status(), 0, "STATUS of the latest call");
        // the first that holds
        b.refuses(1, "plate", 9, 9);
        b.refuses(1, "found", -2, 0);
        b.refuses(2, "minus", 7, 0);
        b.refuses(4, "slide", 0, 0);
        for (int x = 0; x < 12; x++) {
            b.gives(x + 1, "lose", x, 0);
        }
        b.refuses(3, "lose", 0, 0);
    }

    private static void feed() {
        Bench b = new Bench();
        for (int i = 1; i <= 40; i++) {
            b.tells(20 * i, "feed", 0x20202020, 0x0a200a20, 0x20202020, 0x20202020, 0x0a0a0a0a);
        }
        b.tells(-1, "feed", 0, 0, 0, 0, 0);
        b.gives(0, "load", 800);
        // the highest byte of each int first
        b.call("feed", 0x6261636b, 0x20393bff, 0, 0, 0);
        b.gives(0, "load", 7);
        b.gives(9, "many", 4);
        b.call("feed", -1, -1, -1, -1, -1);
        b.refuses(9, "load", 1);
        b.tells(1, "fault", 0);
    }

    private static void load() {
        Bench b = new Bench();
        b.refuses(1, "load", -1);
        b.refuses(1, "load", 1);
        b.gives(0, "load", 0);
        b.call("feed", 0x6261636b, 0x20393bff, 0, 0, 0);
        b.refuses(1, "load", 21);
        b.gives(0, "load", 7);
        b.gives(9, "many", 4);
        // the tape is empty then
        b.refuses(1, "load", 7);
        b = Bench.of(ROW7 + "plate b neg a;source 1 2 3;lost 4 5;stray 6 7 8;back 9;use b;");
        b.gives(2, "many", 0);
        b.gives(9, "light", 1);
        b.gives(1, "many", 6);
        // with 9 nothing but the tape and what fault() tells is another
        String before = b.printed();
        b.gives(7, "keep");
        b.gives(before.length(), "print");
        Bench.same(b.load("plate c row 5;source 0 0 0;"), -1, "load() of a FAULT");
        Bench.same(b.status(), 9, "STATUS of a FAULT");
        b.refuses(1, "load", 1);
        b.gives('p', "out", 0);
        b.gives(0, "match", 0);
        b.gives(1, "many", 6);
        Bench.same(b.printed(), before, "the bench behind a FAULT");
        // with 0 all is told anew
        Bench.same(b.load(" "), 0, "load() of a blank");
        for (int what : new int[] {0, 1, 2, 3, 4, 6}) {
            b.gives(0, "many", what);
        }
        b.refuses(5, "many", 5);
        b.refuses(5, "undo");
    }

    private static void loadIsForm() {
        // the latest back and use tell; blanks are free; a LOST one may be told twice
        Bench b = Bench.of("\n back 3;plate a row 3;use a ;plate b\nbits#10;use b;back4;lost1 1;"
            + "lost 1 1;\n");
        b.gives(4, "many", 4);
        b.gives(1, "many", 5);
        b.gives(2, "many", 2);
        b.gives(1, "all", 4);
        // without: BACK 0, the first PLATE
        b = Bench.of("plate b row 3;plate a row 5;");
        b.gives(0, "many", 4);
        b.gives(0, "many", 5);
        // the longest TOKENS
        Bench.of("plate sixsix row 0047;").gives(47, "plate", 0, 0);
        Bench.of("plate a bits #" + "01".repeat(20) + ";").gives(40, "plate", 0, 0);
        Bench.of("plate a set 47 46 0;plate b set 1 0;plate c set 1;").gives(2, "plate", 0, 2);
        Bench.of("source 99 99 999;source 0 0 1;stray 99 99 999;lost 99 99;back 99;back 0;")
            .gives(2, "many", 1);
        Bench.of("plate a row 17;plate c both a a;").gives(17, "plate", 1, 1);
        // a text of 800 bytes
        String long800 = "back 7;" + " ".repeat(793);
        Bench.of(long800).gives(7, "many", 4);
    }

    private static void faultTokens() {
        Bench.faults(1, 0, "abcdefg 1;");
        Bench.faults(1, 5, "back 12345;");
        Bench.faults(1, 5, "back -1;");
        Bench.faults(1, 4, "back\t1;");
        Bench.faults(1, 4, "back\r1;");
        Bench.faults(1, 0, "Back 1;");
        Bench.faults(1, 6, "back 1\0;");
        Bench.faults(1, 6, "back 1\u00e9;");
        Bench.faults(1, 13, "plate a bits #;");
        Bench.faults(1, 13, "plate a bits #2;");
        Bench.faults(1, 13, "plate a bits # 1;");
        Bench.faults(1, 13, "plate a bits #" + "01".repeat(20) + "1;");
        Bench.faults(1, 16, "plate a set 3 0 ?;");
        Bench.faults(2, 0, "row 7;");
        Bench.faults(2, 0, "a;");
        Bench.faults(2, 0, "7;");
        Bench.faults(2, 0, ";");
        Bench.faults(2, 0, "#1;");
        Bench.faults(2, 7, "back 1;;");
        Bench.faults(2, 5, "back ;");
        Bench.faults(2, 5, "back a;");
        Bench.faults(2, 7, "back 1 2;");
        Bench.faults(2, 9, "lost 1 2 3;");
        Bench.faults(2, 11, "source 1 2 ;");
        Bench.faults(2, 6, "plate 7 row 7;");
        Bench.faults(2, 8, "plate a 7;");
        Bench.faults(2, 8, "plate a rows 7;");
        Bench.faults(2, 8, "plate a plate 7;");
        Bench.faults(2, 14, "plate a row 7 7;");
        Bench.faults(2, 12, "plate a row a;");
        Bench.faults(2, 13, "plate a bits 10;");
        Bench.faults(2, 16, "plate a bits #012;");
        Bench.faults(2, 11, "plate a set;");
        Bench.faults(2, 16, "plate a set 3 0 a;");
        for (String word : Model.RESERVED) {
            Bench.faults(2, 6, "plate " + word + " row 7;");
            Bench.faults(2, 4, "use " + word + ";");
            Bench.faults(2, 12, "plate a neg " + word + ";");
        }
    }

    private static void faultEnds() {
        Bench.faults(2, 4, "back");
        Bench.faults(2, 7, "back   ");
        Bench.faults(2, 6, "back 1");
        Bench.faults(2, 15, "plate a set 3 0");
        Bench.faults(2, 8, "plate a\n");
        Bench.faults(2, 11, "plate a row");
    }

    private static void faultNumbers() {
        for (int p = 0; p <= 60; p++) {
            String row = "plate a row " + p + ";";
            String square = "plate a square " + p + ";";
            if (Model.isPrime(p)) {
                Bench.of(row).gives(p, "plate", 0, 0);
            } else {
                Bench.faults(3, 12, row);
            }
            if (Model.isPrime(p) && p <= 17) {
                Bench.of(square).gives(p, "plate", 0, 1);
            } else {
                Bench.faults(3, 15, square);
            }
        }
        Bench.faults(3, 12, "plate a set 0;");
        Bench.faults(3, 12, "plate a set 48;");
        Bench.faults(3, 14, "plate a set 5 5;");
        Bench.faults(3, 16, "plate a set 5 4 4;");
        Bench.faults(3, 29, ROW7 + "plate b turn a 100 0;");
        Bench.faults(3, 31, ROW7 + "plate b turn a 0 100;");
        Bench.faults(3, 7, "source 100 0 1;");
        Bench.faults(3, 9, "source 0 100 1;");
        Bench.faults(3, 11, "source 0 0 0;");
        Bench.faults(3, 11, "source 0 0 1000;");
        Bench.faults(3, 5, "lost 100 0;");
        Bench.faults(3, 7, "lost 0 9999;");
        Bench.faults(3, 6, "stray 100 0 1;");
        Bench.faults(3, 8, "stray 0 100 1;");
        Bench.faults(3, 10, "stray 0 0 0;");
        Bench.faults(3, 5, "back 100;");
    }

    private static void faultNames() {
        Bench.faults(4, 20, ROW7 + "plate a row 5;");
        Bench.faults(4, 12, "plate a neg a;");
        Bench.faults(4, 12, "plate a neg b;plate b row 3;");
        Bench.faults(4, 13, "plate a turn b 0 0;");
        Bench.faults(4, 27, ROW7 + "plate b both b a;");
        Bench.faults(4, 29, ROW7 + "plate b both a b;");
        Bench.faults(4, 18, ROW7 + "use b;");
        String square = "plate s square 3;";
        Bench.faults(5, 30, square + "plate b both s s;");
        Bench.faults(5, 46, square + ROW7 + "plate b both a s;");
        Bench.faults(4, 46, square + ROW7 + "plate b both a x;");
        Bench.faults(5, 45, "plate a row 17;plate b row 19;plate c both a b;");
        Bench.faults(5, 44, "plate a row 7;plate b row 47;plate c both b a;");
        Bench.of("plate a set 17;plate b set 17;plate c both a b;");
        Bench.of("plate a set 47;plate b set 6;plate c both a b;plate d both b a;");
    }

    private static void faultTooMany() {
        StringBuilder plates = new StringBuilder();
        for (char name = 'a'; name <= 'f'; name++) {
            plates.append("plate ").append(name).append(" row 3;");
        }
        Bench.of(plates.toString()).gives(6, "many", 0);
        Bench.faults(6, 84, plates + "plate g row 3;");
        Bench.faults(6, 84, plates + "plate a row 4;");
        Bench.faults(6, 84, plates + "plate");
        Bench.of("source 0 0 1;".repeat(8)).gives(8, "many", 1);
        Bench.faults(6, 104, "source 0 0 1;".repeat(9));
        Bench.of("lost 0 0;".repeat(12)).gives(12, "many", 2);
        Bench.faults(6, 108, "lost 0 0;".repeat(12) + "lost x;");
        Bench.of("stray 0 0 1;".repeat(8)).gives(8, "many", 3);
        Bench.faults(6, 96, "stray 0 0 1;".repeat(9));
    }

    private static void firstFault() {
        Bench.faults(3, 5, "back 100 ?;");
        Bench.faults(2, 0, "bak 100;");
        Bench.faults(1, 9, "back 10; ?");
        Bench.faults(4, 4, "use a;plate a row 7;");
    }

    private static void fault() {
        Bench b = new Bench();
        b.tells(-1, "fault", 0);
        b.tells(-1, "fault", 1);
        b.refuses(1, "load", 5);
        b.tells(-1, "fault", 0);
        b.load(ROW7);
        b.tells(0, "fault", 0);
        b.tells(-1, "fault", 1);
        b.load("back 100;");
        b.refuses(1, "load", 5);
        b.tells(3, "fault", 0);
        b.tells(5, "fault", 1);
        b.tells(-1, "fault", 2);
        b.tells(-1, "fault", -1);
        Bench.same(b.status(), 1, "fault() has no STATUS");
        b.load(ROW7);
        b.tells(0, "fault", 0);
    }

    private static void many() {
        Bench b = Bench.of(ROW7 + "plate b neg a;source 1 2 3;source 1 2 3;lost 4 5;lost 4 6;"
            + "lost 4 7;stray 6 7 8;back 9;use b;");
        b.gives(2, "many", 0);
        b.gives(2, "many", 1);
        b.gives(3, "many", 2);
        b.gives(1, "many", 3);
        b.gives(9, "many", 4);
        b.gives(1, "many", 5);
        b.gives(0, "many", 6);
        b.gives(9, "light", 0);
        b.gives(1, "many", 6);
        b.refuses(1, "many", -1);
        b.refuses(1, "many", 7);
    }
}
