/** The edges of Terms: the text, TOKENS, LINES, FORMS and where FAULTS are told. */
public final class EdgeTextTest {
    private static final int[] PRIMES = {3, 5, 7, 11, 13, 17, 19, 23, 29, 31, 37, 41, 43, 47};

    public static void main(String[] args) {
        textLength();
        blanks();
        everyByteAlone();
        everyByteInside();
        words();
        numbers();
        bits();
        asLongAsTheyGo();
        sign();
        noLines();
        sourceLine();
        lostLine();
        strayLine();
        backLine();
        useLine();
        formRow();
        formSquare();
        formBits();
        formSet();
        formTurn();
        formNeg();
        formWord();
        lineWord();
        formBoth();
        names();
        manyPlates();
        manyThings();
        toldAhead();
        bothCells();
        firstFault();
        faultOne();
        faultTwo();
        faultThree();
        faultFour();
        faultFive();
        faultSix();
        Bench.end();
    }

    /** A text without a FAULT: fault() tells none, and load() how many PLATES. */
    private static Bench good(int plates, String text) {
        Bench b = Bench.of(text);
        b.gives(plates, "many", 0);
        b.tells(0, "fault", 0);
        b.tells(-1, "fault", 1);
        return b;
    }

    private static String pad(String text, int length) {
        return text + " ".repeat(length - text.length());
    }

    private static void textLength() {
        Bench.says("A BENCH is told by a TEXT of at most 800 bytes.");
        good(0, " ".repeat(793) + "back 5;").gives(5, "many", 4);
        good(0, pad("back 5;", 799)).gives(5, "many", 4);
        Bench.faults(2, 799, " ".repeat(799) + ";");
        Bench.faults(2, 800, pad("back", 800));
        Bench.faults(1, 0, "a".repeat(800));
        Bench.faults(1, 0, "1".repeat(800));
        Bench.faults(1, 0, "#" + "1".repeat(799));
        Bench.faults(2, 0, ";".repeat(800));
        Bench.faults(2, 0, "a ".repeat(400));
        Bench b = new Bench();
        b.feed(" ".repeat(800));
        b.tells(-1, "feed", 0x20202020, 0x20202020, 0x20202020, 0x20202020, 0x20202020);
        b.refuses(1, "load", 801);
        b.gives(0, "load", 800);
    }

    private static void blanks() {
        Bench.says("between them blanks (10, 32)");
        good(0, "back 5;").gives(5, "many", 4);
        good(0, "back\n5\n;\n").gives(5, "many", 4);
        good(0, "  back \n\n 5 \n ; \n").gives(5, "many", 4);
        good(1, "plate\na\nrow\n3\n;").gives(3, "plate", 0, 0);
        Bench.faults(1, 4, "back\t5;");
        Bench.faults(1, 4, "back\r5;");
        Bench.faults(1, 4, "back\u000b5;");
        Bench.faults(1, 4, "back\f5;");
        Bench.faults(1, 4, "back\u00a05;");
    }

    /** What a text of one byte is. */
    private static void everyByteAlone() {
        Bench.says("1 no TOKEN begins there.");
        for (int c = 0; c < 256; c++) {
            String text = String.valueOf((char) c);
            if (c == 10 || c == 32) {
                good(0, text);
            } else if ((c >= 'a' && c <= 'z') || (c >= '0' && c <= '9') || c == ';') {
                Bench.faults(2, 0, text);
            } else {
                Bench.faults(1, 0, text);
            }
        }
    }

    private static void everyByteInside() {
        Bench.says("TOKENS, as long as they go");
        for (int c = 0; c < 256; c++) {
            String text = "back 1" + (char) c + ";";
            if (c == 10 || c == 32) {
                good(0, text).gives(1, "many", 4);
            } else if (c >= '0' && c <= '9') {
                good(0, text).gives(10 + c - '0', "many", 4);
            } else if (c == ';') {
                Bench.faults(2, 7, text);
            } else {
                Bench.faults(c >= 'a' && c <= 'z' ? 2 : 1, 6, text);
            }
        }
        // behind a WORD: a letter makes it longer
        for (int c = 0; c < 256; c++) {
            String text = "plate a" + (char) c + " row 3;";
            if (c == 10 || c == 32 || (c >= 'a' && c <= 'z')) {
                good(1, text);
            } else if ((c >= '0' && c <= '9') || c == ';') {
                Bench.faults(2, 7, text);
            } else {
                Bench.faults(1, 7, text);
            }
        }
        // behind BITS: 0 and 1 alone make them longer
        for (int c = 0; c < 256; c++) {
            String text = "plate a bits #1" + (char) c + ";";
            if (c == 10 || c == 32) {
                good(1, text).gives(1, "plate", 0, 0);
            } else if (c == '0' || c == '1') {
                good(1, text).gives(2, "plate", 0, 0);
            } else if (c == ';') {
                Bench.faults(2, 16, text);
            } else {
                boolean token = (c >= 'a' && c <= 'z') || (c >= '2' && c <= '9');
                Bench.faults(token ? 2 : 1, 15, text);
            }
        }
    }

    private static void words() {
        Bench.says("WORDS (1 to 6 small letters; a longer one is no TOKEN)");
        String letters = "zyabcdefgh";
        for (int n = 1; n <= 10; n++) {
            String name = letters.substring(0, n);
            String text = "plate " + name + " row 3;";
            if (n <= 6) {
                Bench.same(good(1, text).printed(), text + "back 0;use " + name + ";", "print()");
            } else {
                Bench.faults(1, 6, text);
            }
        }
        Bench.faults(1, 0, "sources 1 1 1;");
        Bench.faults(1, 8, "plate a squares 3;");
        Bench.faults(1, 6, "plate A row 3;");
        Bench.faults(1, 7, "plate aA row 3;");
        // letters beside z and a
        Bench.faults(1, 6, "plate ` row 3;");
        Bench.faults(1, 6, "plate { row 3;");
        good(2, "plate a row 3;plate z row 3;");
    }

    private static void numbers() {
        Bench.says("NUMBERS (1 to 4 digits; a longer one is none)");
        good(0, "back 7;").gives(7, "many", 4);
        good(0, "back 07;").gives(7, "many", 4);
        good(0, "back 007;").gives(7, "many", 4);
        good(0, "back 0007;").gives(7, "many", 4);
        good(0, "back 0000;").gives(0, "many", 4);
        Bench.faults(1, 5, "back 00007;");
        Bench.faults(1, 5, "back 00000;");
        Bench.faults(3, 5, "back 9999;");
        Bench.faults(1, 5, "back 10000;");
        Bench.faults(1, 5, "back 4294967301;");
        good(0, "source 0099 0000 0999;").gives(999, "thing", 0, 0, 2);
        Bench.faults(1, 5, "back /;");
        Bench.faults(1, 5, "back :;");
    }

    private static void bits() {
        Bench.says("BITS (a # and 1 to 40 of 0 and 1 behind it, as many as stand there; a # with "
            + "none, or more, is no TOKEN)");
        for (int n = 0; n <= 44; n++) {
            String text = "plate a bits #" + "1".repeat(n) + ";";
            if (n >= 1 && n <= 40) {
                good(1, text).gives(n, "plate", 0, 2);
            } else {
                Bench.faults(1, 13, text);
            }
        }
        good(1, "plate a bits #0;").gives(0, "plate", 0, 2);
        good(1, "plate a bits #" + "0".repeat(40) + ";").gives(40, "plate", 0, 0);
        Bench.faults(1, 13, "plate a bits #" + "0".repeat(41) + ";");
        Bench.faults(1, 13, "plate a bits # 1;");
        Bench.faults(1, 13, "plate a bits #\n1;");
        Bench.faults(1, 13, "plate a bits ##1;");
        Bench.faults(1, 13, "plate a bits #2;");
        Bench.faults(1, 13, "plate a bits #/;");
        Bench.faults(1, 13, "plate a bits #a;");
        Bench.faults(1, 13, "plate a bits #");
        // as many as stand there: what comes next is another TOKEN
        Bench.faults(2, 16, "plate a bits #012;");
        Bench.faults(2, 16, "plate a bits #01#1;");
        Bench.faults(2, 17, "plate a bits #01 1;");
        Bench.faults(2, 54, "plate a bits #" + "01".repeat(20) + "2;");
    }

    private static void asLongAsTheyGo() {
        Bench.says("TOKENS, as long as they go");
        good(0, "back1;").gives(1, "many", 4);
        good(0, "source1 2 3;lost4 5;stray6 7 8;").gives(4, "thing", 1, 0, 0);
        good(1, "plate a row3;");
        good(1, "plate a bits#01;").gives(2, "plate", 0, 0);
        good(2, "plate a row 3;plate b turn a1 2;");
        good(1, "plate a row 3;use a;");
        Bench.faults(2, 0, "backs 1;");
        Bench.faults(2, 0, "bac k 1;");
        Bench.faults(2, 7, "plate a1 row 3;");
        Bench.faults(2, 11, "plate arow 3;");
        Bench.faults(2, 7, "back 12a;");
        Bench.faults(2, 8, "lost 1 2a3;");
        Bench.faults(2, 8, "lost 12 ;");
        Bench.faults(3, 5, "lost 123;");
        Bench.faults(1, 5, "lost 12345;");
    }

    private static void sign() {
        Bench.says("the SIGN ;");
        Bench.faults(2, 7, "back 1 back 2;");
        Bench.faults(2, 6, "back 1");
        Bench.faults(2, 8, "back 1 \n");
        Bench.faults(2, 7, "back 1;;");
        Bench.faults(2, 0, ";back 1;");
        Bench.faults(1, 6, "back 1:");
        Bench.faults(1, 6, "back 1,");
        good(0, "back 1 ;").gives(1, "many", 4);
    }

    private static void noLines() {
        Bench.says("A TEXT: {LINE}. ({ } any number of times.)");
        good(0, "");
        good(0, " ");
        good(0, "\n\n \n");
        good(0, "back 1;");
        StringBuilder text = new StringBuilder();
        for (int i = 0; i < 114; i++) {
            text.append("back ").append(i % 10).append(';');
        }
        Bench.same(text.length(), 798, "the length of the text");
        good(0, text.toString()).gives(3, "many", 4);
    }

    private static void sourceLine() {
        Bench.says("source NUMBER NUMBER NUMBER ; (x, y: 0 to 99 each; COUNTS, 1 to 999)");
        Bench b = good(0, "source 0 0 1;source 99 99 999;source 0 99 1;source 99 0 999;");
        int[][] want = {{0, 0, 1}, {99, 99, 999}, {0, 99, 1}, {99, 0, 999}};
        for (int k = 0; k < 4; k++) {
            for (int what = 0; what < 3; what++) {
                b.gives(want[k][what], "thing", 0, k, what);
            }
        }
        Bench.faults(3, 7, "source 100 0 1;");
        Bench.faults(3, 7, "source 9999 0 1;");
        Bench.faults(3, 9, "source 0 100 1;");
        Bench.faults(3, 11, "source 0 0 0;");
        Bench.faults(3, 11, "source 0 0 1000;");
        Bench.faults(1, 7, "source -1 0 1;");
        Bench.faults(2, 9, "source 0 ;");
        Bench.faults(2, 11, "source 0 0 ;");
        Bench.faults(2, 13, "source 0 0 1 1;");
        Bench.faults(2, 7, "source ;");
    }

    private static void lostLine() {
        Bench.says("lost NUMBER NUMBER ; (x, y)");
        Bench b = good(0, "lost 0 99;lost 99 0;");
        b.gives(0, "thing", 1, 0, 0);
        b.gives(99, "thing", 1, 0, 1);
        b.gives(99, "thing", 1, 1, 0);
        b.gives(0, "thing", 1, 1, 1);
        Bench.faults(3, 5, "lost 100 0;");
        Bench.faults(3, 7, "lost 0 100;");
        Bench.faults(2, 7, "lost 0 ;");
        Bench.faults(2, 9, "lost 0 0 1;");
        // the same one may be told again
        good(0, "lost 1 1;lost 1 1;").gives(2, "many", 2);
    }

    private static void strayLine() {
        Bench.says("stray NUMBER NUMBER NUMBER ; (x, y, COUNTS)");
        Bench b = good(0, "stray 0 99 1;stray 99 0 999;");
        int[][] want = {{0, 99, 1}, {99, 0, 999}};
        for (int k = 0; k < 2; k++) {
            for (int what = 0; what < 3; what++) {
                b.gives(want[k][what], "thing", 2, k, what);
            }
        }
        Bench.faults(3, 6, "stray 100 0 1;");
        Bench.faults(3, 8, "stray 0 100 1;");
        Bench.faults(3, 10, "stray 0 0 0;");
        Bench.faults(3, 10, "stray 0 0 1000;");
        Bench.faults(2, 10, "stray 0 0 ;");
        Bench.faults(2, 12, "stray 0 0 1 1;");
    }

    private static void backLine() {
        Bench.says("back NUMBER ; (0 to 99; 0 without; the latest tells)");
        good(0, "back 0;").gives(0, "many", 4);
        good(0, "back 99;").gives(99, "many", 4);
        Bench.faults(3, 5, "back 100;");
        Bench.faults(2, 5, "back ;");
        Bench.faults(2, 7, "back 1 1;");
        good(0, "lost 1 1;").gives(0, "many", 4);
        good(0, "back 9;back 0;").gives(0, "many", 4);
        good(0, "back 0;back 9;lost 1 1;").gives(9, "many", 4);
        // a text without it behind one with it
        Bench b = Bench.of("back 9;");
        b.load("lost 1 1;");
        b.gives(0, "many", 4);
    }

    private static void useLine() {
        Bench.says("use NAME ; (the latest tells; without: the first PLATE)");
        String two = "plate b row 3;plate a row 5;";
        good(2, two).gives(0, "many", 5);
        good(2, two + "use a;").gives(1, "many", 5);
        good(2, two + "use a;use b;").gives(0, "many", 5);
        good(2, two + "use b;use a;").gives(1, "many", 5);
        good(2, "plate b row 3;use b;plate a row 5;").gives(0, "many", 5);
        good(0, "back 1;").refuses(5, "many", 5);
        Bench b = Bench.of(two + "use a;");
        b.load(two);
        b.gives(0, "many", 5);
        Bench.faults(4, 4, "use a;");
        Bench.faults(2, 4, "use ;");
        Bench.faults(2, 4, "use 0;");
        Bench.faults(2, 34, two + "use a b;");
    }

    private static boolean isOf(int n, int most) {
        for (int p : PRIMES) {
            if (p == n && p <= most) {
                return true;
            }
        }
        return false;
    }

    private static void formRow() {
        Bench.says("The NUMBER of row is a PRIME (an odd one, 3 to 47)");
        for (int n = 0; n <= 130; n++) {
            if (isOf(n, 47)) {
                good(1, "plate a row " + n + ";").gives(n, "plate", 0, 0);
            } else {
                Bench.faults(3, 12, "plate a row " + n + ";");
            }
        }
        Bench.faults(3, 12, "plate a row 9973;");
        Bench.faults(2, 12, "plate a row ;");
        Bench.faults(2, 14, "plate a row 3 3;");
    }

    private static void formSquare() {
        Bench.says("or square NUMBER. The NUMBER of row is a PRIME (an odd one, 3 to 47), of square "
            + "3 to 17.");
        for (int n = 0; n <= 60; n++) {
            if (isOf(n, 17)) {
                Bench b = good(1, "plate a square " + n + ";");
                b.gives(n, "plate", 0, 0);
                b.gives(n, "plate", 0, 1);
            } else {
                Bench.faults(3, 15, "plate a square " + n + ";");
            }
        }
        Bench.faults(2, 15, "plate a square ;");
        Bench.faults(2, 17, "plate a square 3 3;");
    }

    private static void formBits() {
        Bench.says("or bits BITS");
        good(1, "plate a bits #1;");
        Bench.faults(2, 13, "plate a bits ;");
        Bench.faults(2, 13, "plate a bits 1;");
        Bench.faults(2, 13, "plate a bits a;");
        Bench.faults(2, 16, "plate a bits #1 #1;");
    }

    private static void formSet() {
        Bench.says("set NUMBER {NUMBER} (WIDE, 1 to 47; places 0 to WIDE less 1)");
        for (int n = 0; n <= 50; n++) {
            String text = "plate a set " + n;
            if (n >= 1 && n <= 47) {
                good(1, text + ";").gives(0, "plate", 0, 2);
                good(1, text + " 0;").gives(1, "cell", 0, 0, 0, 0);
                good(1, text + " " + (n - 1) + ";").gives(1, "cell", 0, n - 1, 0, 0);
                Bench.faults(3, text.length() + 1, text + " " + n + ";");
            } else {
                Bench.faults(3, 12, text + ";");
            }
        }
        Bench.faults(2, 12, "plate a set ;");
        Bench.faults(2, 16, "plate a set 3 1 a;");
        Bench.faults(2, 16, "plate a set 3 1 #1;");
        Bench.faults(2, 15, "plate a set 3 1");
        // all places
        StringBuilder full = new StringBuilder("plate a set 47");
        for (int x = 46; x >= 0; x--) {
            full.append(' ').append(x);
        }
        good(1, full + ";").gives(47, "plate", 0, 2);
        Bench.faults(3, full.length() + 1, full + " 0;");
    }

    private static void formTurn() {
        Bench.says("or turn NAME NUMBER NUMBER (0 to 99 each)");
        String row = "plate a row 3;";
        good(2, row + "plate b turn a 0 0;").gives(1, "cell", 1, 1, 0, 0);
        good(2, row + "plate b turn a 99 99;").gives(1, "cell", 1, 1, 0, 0);
        Bench.faults(3, 29, row + "plate b turn a 100 0;");
        Bench.faults(3, 31, row + "plate b turn a 0 100;");
        Bench.faults(2, 29, row + "plate b turn a ;");
        Bench.faults(2, 31, row + "plate b turn a 0 ;");
        Bench.faults(2, 33, row + "plate b turn a 0 0 0;");
        Bench.faults(2, 27, row + "plate b turn 0 0;");
    }

    private static void formNeg() {
        Bench.says("or neg NAME");
        String row = "plate a row 3;";
        good(2, row + "plate b neg a;");
        Bench.faults(2, 26, row + "plate b neg ;");
        Bench.faults(2, 26, row + "plate b neg 1;");
        Bench.faults(2, 28, row + "plate b neg a a;");
    }

    private static void formWord() {
        Bench.says("FORM: row NUMBER, or bits BITS, or set NUMBER {NUMBER}");
        String[] none = {"plate", "source", "lost", "stray", "back", "use", "a", "b", "rows", "ro",
            "squar", "bit"};
        for (String word : none) {
            Bench.faults(2, 8, "plate a " + word + " 1 1 1;");
            Bench.faults(2, 8, "plate a " + word + " 7;");
            Bench.faults(2, 8, "plate a " + word);
        }
        Bench.faults(2, 8, "plate a 7;");
        Bench.faults(2, 8, "plate a #1;");
        Bench.faults(2, 8, "plate a ;");
        Bench.faults(1, 8, "plate a squares 3;");
    }

    private static void lineWord() {
        Bench.says("LINE: plate NAME FORM ;");
        String[] none = {"row", "bits", "set", "turn", "neg", "both", "square", "a", "plates", "plat",
            "sourc", "los", "losts", "strays", "backs", "used", "us"};
        for (String word : none) {
            Bench.faults(2, 14, "plate a row 3;" + word + " 1 1 1;");
            Bench.faults(2, 0, word + " a;");
            Bench.faults(2, 0, word + ";");
        }
        Bench.faults(2, 14, "plate a row 3;1;");
        Bench.faults(2, 14, "plate a row 3;#1;");
    }

    private static void formBoth() {
        Bench.says("or both NAME NAME");
        String row = "plate a row 3;";
        good(2, row + "plate b both a a;").gives(3, "plate", 1, 1);
        Bench.faults(2, 27, row + "plate b both ;");
        Bench.faults(2, 29, row + "plate b both a ;");
        Bench.faults(2, 31, row + "plate b both a a a;");
    }

    private static void names() {
        Bench.says("NAMES are WORDS but plate, row, bits, set, turn, neg, both, square, source, "
            + "lost, stray, back, use.");
        String[] none = {"plate", "row", "bits", "set", "turn", "neg", "both", "square", "source",
            "lost", "stray", "back", "use"};
        String row = "plate a row 3;";
        for (String word : none) {
            Bench.faults(2, 6, "plate " + word + " row 3;");
            Bench.faults(2, 18, row + "use " + word + ";");
            Bench.faults(2, 26, row + "plate b neg " + word + ";");
            Bench.faults(2, 27, row + "plate b turn " + word + " 0 0;");
            Bench.faults(2, 27, row + "plate b both " + word + " a;");
            Bench.faults(2, 29, row + "plate b both a " + word + ";");
            // one letter less, one more: a NAME
            String less = word.substring(1);
            good(1, "plate " + less + " row 3;use " + less + ";");
            if (word.length() < 6) {
                good(1, "plate " + word + "s row 3;use " + word + "s;");
            }
        }
        good(2, "plate x row 3;plate y neg x;use y;").gives(1, "many", 5);
    }

    private static String plates(int n) {
        StringBuilder text = new StringBuilder();
        for (int k = 0; k < n; k++) {
            text.append("plate ").append((char) ('f' - k)).append(" set ").append(k + 1).append(';');
        }
        return text.toString();
    }

    private static void manyPlates() {
        Bench.says("PLATES: at most 6, numbered from 0 on as they are told");
        for (int n = 0; n <= 6; n++) {
            Bench b = good(n, plates(n));
            for (int k = 0; k < n; k++) {
                b.gives(k + 1, "plate", k, 0);
            }
            b.refuses(2, "plate", n, 0);
        }
        Bench.faults(6, plates(6).length(), plates(6) + "plate z row 3;");
    }

    private static void manyThings() {
        Bench.says("At most 8 SOURCES, 12 LOST, 8 STRAYS, each numbered from 0 on.");
        StringBuilder text = new StringBuilder();
        for (int k = 0; k < 8; k++) {
            text.append("source ").append(k + 10).append(" 0 1;");
            text.append("stray ").append(k + 20).append(" 0 1;");
        }
        for (int k = 0; k < 12; k++) {
            text.append("lost ").append(k + 30).append(" 0;");
        }
        Bench b = good(0, text.toString());
        b.gives(8, "many", 1);
        b.gives(12, "many", 2);
        b.gives(8, "many", 3);
        for (int k = 0; k < 8; k++) {
            b.gives(k + 10, "thing", 0, k, 0);
            b.gives(k + 20, "thing", 2, k, 0);
        }
        for (int k = 0; k < 12; k++) {
            b.gives(k + 30, "thing", 1, k, 0);
        }
        Bench.faults(6, text.length(), text + "source 0 0 1;");
        Bench.faults(6, text.length(), text + "lost 0 0;");
        Bench.faults(6, text.length(), text + "stray 0 0 1;");
        // back and use may be told as often as there is room
        good(6, plates(6) + "back 1;".repeat(20) + "use a;".repeat(20));
    }

    private static void toldAhead() {
        Bench.says("those named in a FORM are told ahead");
        Bench.faults(4, 12, "plate a neg b;plate b row 3;");
        Bench.faults(4, 13, "plate a turn b 0 0;plate b row 3;");
        Bench.faults(4, 13, "plate a both b b;plate b row 3;");
        Bench.faults(4, 29, "plate c row 3;plate a both c b;plate b row 3;");
        // not by itself
        Bench.faults(4, 12, "plate a neg a;");
        Bench.faults(4, 13, "plate a turn a 0 0;");
        Bench.faults(4, 13, "plate a both a a;");
    }

    private static String two(int wide, int other) {
        return "plate a set " + wide + " 0;plate b set " + other + " 0;";
    }

    private static void bothCells() {
        Bench.says("both: two PLATES (or one twice) that are one HIGH, with at most 289 CELLS "
            + "together.");
        good(2, "plate a row 17;plate b both a a;").gives(17, "plate", 1, 1);
        good(3, two(17, 17) + "plate c both a b;").gives(17, "plate", 2, 0);
        int[][] fit = {{1, 1}, {1, 47}, {47, 1}, {47, 6}, {6, 47}, {36, 8}, {41, 7}, {32, 9}};
        for (int[] size : fit) {
            Bench b = good(3, two(size[0], size[1]) + "plate c both a b;");
            b.gives(size[0], "plate", 2, 0);
            b.gives(size[1], "plate", 2, 1);
        }
        int[][] large = {{29, 10}, {10, 29}, {47, 7}, {7, 47}, {47, 47}, {17, 18}, {18, 17}};
        for (int[] size : large) {
            String text = two(size[0], size[1]) + "plate c both a ";
            Bench.faults(5, text.length(), text + "b;");
        }
        // one that is both, but one HIGH
        Bench b = good(3, "plate u bits #10;plate v bits #1;plate w both u v;");
        b.gives(1, "plate", 2, 1);
        good(4, "plate u bits #10;plate v bits #1;plate w both u v;plate z both w w;");
        // a turned one, a negative
        good(4, "plate a row 3;plate b turn a 1 1;plate c neg b;plate d both b c;");
    }

    private static void firstFault() {
        Bench.says("FAULTS, told where they stand; of several the first along the text, of one "
            + "TOKEN the least kind");
        Bench.faults(3, 5, "back 100; ?");
        Bench.faults(1, 8, "back 10;? back 100;");
        Bench.faults(2, 7, "back 1 100;back 100;");
        Bench.faults(3, 7, "source 100 100 0;");
        Bench.faults(3, 9, "source 0 100 0;");
        Bench.faults(4, 12, "plate a neg b 7");
        // of one TOKEN: 1 ahead of 2
        Bench.faults(1, 7, "back 1 12345;");
        Bench.faults(1, 5, "back abcdefg;");
        // 2 ahead of 3: a NUMBER too large that can't stand there
        Bench.faults(2, 7, "back 1 1000;");
        Bench.faults(2, 6, "plate 1000 row 3;");
        // 2 ahead of 4: a WORD that is no NAME, and that no PLATE has
        Bench.faults(2, 12, "plate a neg row;");
        Bench.faults(2, 4, "use use;");
        // 5: more than one HIGH and too many CELLS at once
        String text = "plate a row 17;plate s square 17;plate c both a ";
        Bench.faults(5, text.length(), text + "s;");
        // 6 stands at the first WORD, ahead of all others in its LINE
        Bench.faults(6, plates(6).length(), plates(6) + "plate f row 4");
        Bench.faults(6, plates(6).length(), plates(6) + "plate plate ?");
    }

    private static void faultOne() {
        Bench.says("1 no TOKEN begins there.");
        Bench.faults(1, 0, "?");
        Bench.faults(1, 1, " ?");
        Bench.faults(1, 2, "\n\n\u00ff");
        Bench.faults(1, 14, "plate a row 3;?");
        Bench.faults(1, 0, "#");
        Bench.faults(1, 7, "back 1 #;");
    }

    private static void faultTwo() {
        Bench.says("2 a TOKEN that can't stand there (the end of the text: its length).");
        String line = "plate ab turn a 1 2;";
        String row = "plate a row 3;";
        // every end of a text inside a LINE
        int[] ends = {5, 6, 8, 9, 13, 14, 15, 16, 17, 18, 19};
        for (int end : ends) {
            Bench.faults(2, row.length() + end, row + line.substring(0, end));
        }
        good(2, row + line);
        Bench.faults(2, 6, "source");
        Bench.faults(2, 8, "source 1");
        Bench.faults(2, 10, "source 1 1");
        Bench.faults(2, 12, "source 1 1 1");
        Bench.faults(2, 4, "back");
        Bench.faults(2, 3, "use");
        // its length, not the place behind the last TOKEN
        Bench.faults(2, 9, "back 1  \n");
        // of the text, not of the tape
        Bench b = new Bench();
        b.feed("back 12;");
        b.refuses(9, "load", 6);
        b.tells(2, "fault", 0);
        b.tells(6, "fault", 1);
        b.feed("back 12;");
        b.refuses(9, "load", 4);
        b.tells(4, "fault", 1);
    }

    private static void faultThree() {
        Bench.says("3 a NUMBER that can't be (no PRIME, a place of a set that is told already, "
            + "too).");
        Bench.faults(3, 12, "plate a row 1;");
        Bench.faults(3, 12, "plate a row 2;");
        Bench.faults(3, 12, "plate a row 45;");
        Bench.faults(3, 12, "plate a row 49;");
        Bench.faults(3, 15, "plate a square 2;");
        Bench.faults(3, 15, "plate a square 9;");
        Bench.faults(3, 15, "plate a square 15;");
        Bench.faults(3, 15, "plate a square 19;");
        Bench.faults(3, 16, "plate a set 3 0 0;");
        Bench.faults(3, 20, "plate a set 3 0 1 2 1;");
        Bench.faults(3, 16, "plate a set 3 2 02;");
        // told already in this set, not in another
        good(2, "plate a set 3 0 1;plate b set 3 0 1;");
    }

    private static void faultFour() {
        Bench.says("4 the NAME of a new PLATE that one has; a NAME of no PLATE.");
        Bench.faults(4, 20, "plate a row 3;plate a row 3;");
        Bench.faults(4, 34, "plate a row 3;plate b row 3;plate a row 3;");
        good(2, "plate a row 3;plate aa row 3;");
        Bench.faults(4, 18, "plate a row 3;use aa;");
        Bench.faults(4, 26, "plate a row 3;plate b neg c;");
        Bench.faults(4, 18, "plate a row 3;use b;");
        // that a PLATE had ahead of this load() is no more
        Bench b = Bench.of("plate a row 3;");
        Bench.same(b.load("use a;"), -1, "load() with a NAME of the text ahead");
        b.tells(4, "fault", 0);
        Bench.same(b.load("plate a row 5;"), 1, "load() with a NAME of the text ahead");
    }

    private static void faultFive() {
        Bench.says("5 a PLATE of both that is more than one HIGH, a second one by which there are "
            + "more than 289 CELLS: at its NAME.");
        String square = "plate s square 3;plate a row 3;";
        Bench.faults(5, 44, square + "plate b both s a;");
        Bench.faults(5, 46, square + "plate b both a s;");
        Bench.faults(5, 44, square + "plate b both s s;");
        Bench.faults(5, 44, square + "plate b both s zz;");
        String turned = "plate s square 3;plate t turn s 0 0;";
        Bench.faults(5, 49, turned + "plate b both t t;");
        String negative = "plate s square 3;plate t neg s;";
        Bench.faults(5, 44, negative + "plate b both t t;");
        String one = "plate v bits #1;plate u bits #10;plate w both v u;";
        Bench.faults(5, 63, one + "plate b both w u;");
        Bench.faults(5, 65, one + "plate b both u w;");
        Bench.faults(5, 45, "plate a row 17;plate b row 19;plate c both a b;");
        Bench.faults(5, 45, "plate a row 17;plate b row 19;plate c both b a;");
        Bench.faults(5, 30, "plate a row 19;plate c both a a;");
    }

    private static void faultSix() {
        Bench.says("6 one too many: a PLATE, SOURCE, LOST, STRAY: at the LINE's first WORD.");
        Bench.faults(6, plates(6).length() + 2, plates(6) + " \nplate z row 3;");
        Bench.faults(6, 8 * 13, "source 1 1 1;".repeat(8) + "source");
        Bench.faults(6, 12 * 9, "lost 1 1;".repeat(13));
        Bench.faults(6, 8 * 12, "stray 1 1 1;".repeat(9));
        // as many as there may be of one leave the others
        String full = "source 1 1 1;".repeat(8) + "stray 1 1 1;".repeat(8);
        good(1, full + "lost 1 1;plate a row 3;back 1;use a;");
    }
}
