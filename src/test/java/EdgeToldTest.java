/** The edges of promises 36 and 37: print and out. */
public final class EdgeToldTest {
    private static final int LEAST = Integer.MIN_VALUE;
    private static final int MOST = Integer.MAX_VALUE;

    public static void main(String[] args) {
        printNothing();
        printOrder();
        printAsTold();
        printNumbers();
        printBlanks();
        printUse();
        printNow();
        printIsAllAsItIs();
        printLongest();
        printFullText();
        printHasNoMemory();
        out();
        outNoneYet();
        outStays();
        outRefused();
        Bench.end();
    }

    private static void told(String want, String text) {
        Bench b = Bench.of(text);
        b.gives(want.length(), "print");
        Bench.same(b.out(), want, "OUT of '" + text + "'");
    }

    private static void printNothing() {
        Bench.says("SOURCES, LOST, STRAYS; back; use (if there is a PLATE): how many bytes.");
        Bench b = new Bench();
        b.gives(7, "print");
        Bench.same(b.out(), "back 0;", "OUT of a new object");
        told("back 0;", "");
        told("back 0;", "back 0;");
        told("back 99;", "back 99;");
        told("source 0 0 1;back 0;", "source 0 0 1;");
        told("lost 0 0;back 0;", "lost 0 0;");
        told("stray 0 0 1;back 0;", "stray 0 0 1;");
    }

    private static void printOrder() {
        Bench.says("the PLATES as they were told; SOURCES, LOST, STRAYS; back; use");
        told("plate b row 3;plate a row 5;source 1 1 1;source 0 0 2;lost 3 3;lost 2 2;"
            + "stray 5 5 5;stray 4 4 4;back 6;use a;",
            "back 6;stray 5 5 5;lost 3 3;plate b row 3;source 1 1 1;"
            + "plate a row 5;use a;stray 4 4 4;lost 2 2;source 0 0 2;");
    }

    private static void printAsTold() {
        Bench.says("the PLATES as they were told");
        String[] forms = {"row 3", "row 47", "bits #0", "bits #" + "01".repeat(20), "set 1",
            "set 1 0", "set 47 46 0 45", "set 5 4 3 2 1 0", "square 3", "square 17"};
        for (String form : forms) {
            told("plate a " + form + ";back 0;use a;", "plate a " + form + ";");
        }
        String row = "plate a row 3;";
        for (String form : new String[] {"turn a 0 0", "turn a 99 99", "turn a 3 10", "neg a",
            "both a a"}) {
            String two = row + "plate zzzzzz " + form + ";";
            told(two + "back 0;use a;", two);
        }
        // TOKENS as they were told, with the zeros ahead of them
        told("plate a row 0003;plate b set 007 06 0;back 0;use a;",
            "plate a row 0003;plate b set 007 06 0;");
    }

    private static void printNumbers() {
        Bench.says("OUT is a TEXT by which load() gives all as it is");
        told("source 0 9 1;source 10 99 9;source 1 2 10;source 3 4 99;source 5 6 100;"
            + "source 7 8 999;back 0;",
            "source 0 9 1;source 10 99 9;source 1 2 10;source 3 4 99;source 5 6 100;"
            + "source 7 8 999;");
        told("source 1 0 20;lost 0 7;stray 7 0 100;back 9;",
            "source 01 000 0020;lost 0000 07;stray 007 00 0100;back 0009;");
    }

    private static void printBlanks() {
        Bench.says("(TOKENS with one blank ahead, but for the first of each LINE and ;)");
        told("plate a row 3;plate b bits #01;source 1 2 3;lost 4 5;stray 6 7 8;back 9;use b;",
            "\n\n plate  a\nrow3 ; plate\n\nb bits#01\n;source1  2\n3;lost4 5 ;\nstray6 7 8;back9;"
            + "use   b ; \n");
        told("plate a set 3 1 2;plate b turn a 1 2;back 0;use a;",
            "plate a set3 1\n2;plate b turn a1 2;");
    }

    private static void printUse() {
        Bench.says("use (if there is a PLATE)");
        told("plate a row 3;back 0;use a;", "plate a row 3;");
        told("plate a row 3;plate abcdef row 3;back 0;use abcdef;",
            "plate a row 3;plate abcdef row 3;use abcdef;");
        told("back 1;", "back 1;");
        told("plate z row 3;back 0;use z;", "plate z row 3;");
        told("plate azazaz row 3;back 0;use azazaz;", "plate azazaz row 3;");
    }

    private static void printNow() {
        Bench.says("by which load() gives all as it is");
        Bench b = Bench.of("plate a row 7;plate b row 5;source 98 1 1;source 2 2 2;lost 1 1;"
            + "lost 1 1;stray 8 8 8;");
        b.gives(1, "drop", 0, 1);
        b.gives(1, "slide", 5, 99);
        b.gives(1, "heal", 0);
        b.gives(1, "add", 2, 99, 10, 100);
        b.gives(0, "use", 1);
        b.gives(0, "light", 10);
        String now = "plate a row 7;plate b row 5;source 3 0 1;lost 1 1;stray 8 8 8;"
            + "stray 99 10 100;back 10;use b;";
        b.gives(now.length(), "print");
        Bench.same(b.out(), now, "OUT behind ACTS");
        // it is no ACT and changes nothing else
        b.gives(6, "many", 6);
        b.gives(5, "undo");
        b.gives(now.length() - 1, "print");
    }

    private static void printIsAllAsItIs() {
        Bench.says("OUT is a TEXT by which load() gives all as it is");
        Bench b = Bench.of("plate a row 13;plate b turn a 5 5;plate c both b b;plate d neg c;"
            + "source 5 6 70;source 50 60 7;lost 3 4;stray 9 9 9;back 3;use d;");
        Bench again = Bench.of(b.printed());
        Bench.same(again.printed(), b.printed(), "print() of what was printed");
        for (int what = 0; what <= 5; what++) {
            again.gives(b.call("many", what), "many", what);
        }
        for (int x = 0; x < 13; x++) {
            for (int what = 0; what <= 3; what++) {
                again.gives(b.call("at", x, 12 - x, what), "at", x, 12 - x, what);
            }
        }
    }

    private static void printLongest() {
        Bench.says("how many bytes.");
        StringBuilder text = new StringBuilder();
        for (char name = 'a'; name <= 'e'; name++) {
            text.append("plate abcde").append(name).append(" set47");
            for (int x = 46; x >= 0; x--) {
                text.append(' ').append(x);
            }
            text.append(';');
        }
        text.append("plate z bits#1;");
        String want = text.toString().replace("set47", "set 47").replace("bits#", "bits #");
        Bench b = Bench.of(text.append(" ".repeat(800 - text.length())).toString());
        for (int k = 0; k < 8; k++) {
            b.gives(k, "add", 0, 99, 99, 999);
            b.gives(k, "add", 2, 99, 99, 999);
        }
        for (int k = 0; k < 12; k++) {
            b.gives(k + 1, "lose", 99 - k, 99);
        }
        b.gives(0, "light", 99);
        StringBuilder all = new StringBuilder(want + "source 99 99 999;".repeat(8));
        for (int k = 0; k < 12; k++) {
            all.append("lost ").append(99 - k).append(" 99;");
        }
        all.append("stray 99 99 999;".repeat(8)).append("back 99;use abcdea;");
        b.gives(all.length(), "print");
        Bench.same(b.out(), all.toString(), "the longest OUT");
        b.gives(';', "out", all.length() - 1);
        b.refuses(5, "out", all.length());
    }

    /** PLATES that fill a text of 800 bytes, with a blank more in each LINE when it is printed. */
    private static void printFullText() {
        Bench.says("(TOKENS with one blank ahead, but for the first of each LINE and ;)");
        StringBuilder text = new StringBuilder();
        for (char name = 'a'; name <= 'f'; name++) {
            text.append("plate abcde").append(name).append(" set0047");
            int places = name == 'f' ? 21 : 22;
            for (int x = 0; x < places; x++) {
                text.append(x < 10 ? " 000" : " 00").append(x);
            }
            text.append(name == 'f' ? " 0031 0045 0046 030;" : ";");
        }
        Bench.same(text.length(), 800, "the length of the text");
        told(text.toString().replace("set", "set ") + "back 0;use abcdea;", text.toString());
    }

    private static void printHasNoMemory() {
        Bench.says("OUT is a TEXT by which load() gives all as it is");
        Bench b = Bench.of("plate a row 7;source 1 1 1;");
        b.gives(40, "print");
        b.gives(40, "print");
        Bench.same(b.out(), "plate a row 7;source 1 1 1;back 0;use a;", "OUT of the second print()");
        b.gives(0, "drop", 0, 0);
        b.gives(27, "print");
        b.refuses(5, "out", 27);
        // a text ahead with more PLATES leaves nothing
        b.load("back 5;");
        b.gives(7, "print");
        Bench.same(b.out(), "back 5;", "OUT behind another text");
        // nor one with a FAULT behind its PLATES
        b.load("plate q row 3;back 5");
        b.gives(7, "print");
        Bench.same(b.out(), "back 5;", "OUT behind a FAULT");
    }

    private static void out() {
        Bench.says("Byte i of OUT (1: below 0; 5: OUT has not so many, or there is none yet).");
        Bench b = Bench.of("plate z row 7;");
        String want = "plate z row 7;back 0;use z;";
        b.gives(want.length(), "print");
        for (int i = 0; i < want.length(); i++) {
            b.gives(want.charAt(i), "out", i);
        }
        b.refuses(5, "out", want.length());
        b.refuses(1, "out", -1);
        // any number of times, in any order
        b.gives('z', "out", 6);
        b.gives('p', "out", 0);
        b.gives('p', "out", 0);
    }

    private static void outNoneYet() {
        Bench.says("or there is none yet");
        Bench b = new Bench();
        b.refuses(5, "out", 0);
        b.refuses(5, "out", 1);
        b.refuses(1, "out", -1);
        b.load("plate z row 7;");
        b.refuses(5, "out", 0);
        b.gives(27, "print");
        b.gives('p', "out", 0);
    }

    private static void outStays() {
        Bench.says("Byte i of OUT");
        Bench b = Bench.of("plate a row 7;");
        String want = "plate a row 7;back 0;use a;";
        b.gives(27, "print");
        b.gives(0, "light", 55);
        Bench.same(b.out(), want, "OUT behind an ACT");
        b.gives(0, "undo");
        b.load("back 100;");
        Bench.same(b.out(), want, "OUT behind a FAULT");
        b.load("");
        Bench.same(b.out(), want, "OUT behind load()");
        b.gives(7, "print");
        Bench.same(b.out(), "back 0;", "OUT");
    }

    private static void outRefused() {
        Bench.says("(1: below 0; 5: OUT has not so many, or there is none yet).");
        Bench b = Bench.of("plate a row 7;");
        for (int i : new int[] {LEAST, -27, -1}) {
            b.refuses(1, "out", i);
        }
        for (int i : new int[] {0, 27, MOST}) {
            b.refuses(5, "out", i);
        }
        b.gives(27, "print");
        for (int i : new int[] {LEAST, -27, -1}) {
            b.refuses(1, "out", i);
        }
        for (int i : new int[] {27, 28, 800, 1321, 1322, 5000, MOST}) {
            b.refuses(5, "out", i);
        }
    }
}
