/** Promises 36 and 37: print, out. */
public final class ToldTest {
    public static void main(String[] args) {
        print();
        printIsRead();
        printIsLong();
        out();
        Bench.end();
    }

    private static void told(String want, String text) {
        Bench b = Bench.of(text);
        b.gives(want.length(), "print");
        Bench.same(b.printed(), want, "print() of " + text);
    }

    private static void print() {
        told("back 0;", "");
        told("source 1 2 3;back 4;", "back 4;source 1 2 3;");
        told("plate a row 7;back 0;use a;", "\n plate\na row7 ;\n");
        told("plate a bits #0110;plate b set 6 5 0 2;plate c set 3;plate d turn b 7 99;"
            + "plate e neg d;plate f both a b;source 0 99 999;lost 10 20;stray 3 4 5;back 99;use f;",
            "plate a bits#0110;plate b set 6  5 0 2;plate c set 3;plate d turn b7 99;"
            + "plate e neg d;plate f both a b;use a;stray 003 4 5;lost 10 20;back 1;"
            + "source 0 99 999;back 99;use f;");
        told("plate abcdef square 17;back 0;use abcdef;", "plate abcdef square 17;");
        // SOURCES, LOST, STRAYS as they are now
        Bench b = Bench.of("plate a row 7;plate b row 5;source 98 1 1;source 2 2 2;lost 1 1;lost 1 1;");
        b.gives(1, "drop", 0, 1);
        b.gives(1, "slide", 5, 9);
        b.gives(1, "heal", 0);
        b.gives(0, "add", 2, 100 - 1, 10, 100);
        b.gives(0, "use", 1);
        b.gives(0, "light", 10);
        Bench.same(b.printed(), "plate a row 7;plate b row 5;source 3 10 1;lost 1 1;"
            + "stray 99 10 100;back 10;use b;", "print() behind ACTS");
        b.gives(6, "many", 6);
    }

    /** By OUT load() gives all as it is. */
    private static void printIsRead() {
        Bench b = Bench.of("plate a row 13;plate b turn a 5 5;plate c both b b;plate d neg c;"
            + "source 5 6 70;source 50 60 7;lost 3 4;stray 9 9 9;back 3;use d;");
        Bench again = Bench.of(b.printed());
        Bench.same(again.printed(), b.printed(), "print() of what was printed");
        for (int x = 0; x < 13; x++) {
            for (int what = 0; what <= 5; what++) {
                if (what != 4) {
                    again.gives(b.call("at", x, 12 - x, what), "at", x, 12 - x, what);
                }
            }
        }
    }

    /** A text of nearly 800 bytes and all that ACTS can put behind it. */
    private static void printIsLong() {
        StringBuilder text = new StringBuilder();
        for (char name = 'a'; name <= 'e'; name++) {
            text.append("plate abcde").append(name).append(" set47");
            for (int x = 46; x >= 0; x--) {
                text.append(' ').append(x);
            }
            text.append(";");
        }
        text.append("plate z bits#1;");
        text.append(" ".repeat(800 - text.length()));
        Bench b = Bench.of(text.toString());
        for (int k = 0; k < 8; k++) {
            b.gives(k, "add", 0, 99, 99, 999);
            b.gives(k, "add", 2, 99, 99, 999);
        }
        for (int k = 0; k < 12; k++) {
            b.gives(k + 1, "lose", 99 - k, 99);
        }
        b.gives(0, "light", 99);
        String want = text.toString().trim().replace("set47", "set 47").replace("bits#", "bits #")
            + "source 99 99 999;".repeat(8);
        for (int k = 0; k < 12; k++) {
            want += "lost " + (99 - k) + " 99;";
        }
        want += "stray 99 99 999;".repeat(8) + "back 99;use abcdea;";
        Bench.same(b.printed(), want, "the longest print()");
    }

    private static void out() {
        Bench b = Bench.of("plate a row 7;");
        b.refuses(5, "out", 0);
        b.refuses(1, "out", -1);
        b.gives(27, "print");
        b.gives('p', "out", 0);
        b.gives(';', "out", 26);
        b.refuses(5, "out", 27);
        b.refuses(5, "out", 2147483647);
        b.refuses(1, "out", -2147483648);
        // OUT stays as it was printed
        b.gives(0, "light", 55);
        b.gives('0', "out", 19);
        b.load("");
        b.gives('p', "out", 0);
        b.gives(7, "print");
        b.gives('b', "out", 0);
        b.refuses(5, "out", 7);
    }
}
