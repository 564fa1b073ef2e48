/** Promises 7 to 12: plate, cell, differences, window, alike, root. */
public final class PlateTest {
    public static void main(String[] args) {
        plate();
        forms();
        cell();
        differences();
        window();
        alike();
        root();
        Bench.end();
    }

    /** What 0 to 7 of a PLATE that is not one CELL. */
    private static void figures(Bench b, int k, int... want) {
        for (int what = 0; what < want.length; what++) {
            b.gives(want[what], "plate", k, what);
        }
    }

    private static void plate() {
        Bench b = Bench.of("plate a row 7;plate b row 5;plate c neg b;plate d row 3;"
            + "plate e both d b;plate f neg a;");
        // WIDE, HIGH, HOLES, WEIGHTS, PEAK, FLAT, the least and the greatest SIDE
        figures(b, 0, 7, 1, 3, -1, 3, 1, -1, -1);
        figures(b, 1, 5, 1, 2, 1, 2, 1, 0, 0);
        figures(b, 2, 5, 1, 3, -1, 1, 1, -1, -1);
        figures(b, 4, 3, 5, 8, -1, 4, 0, -2, 0);
        figures(b, 5, 7, 1, 4, 1, 4, 1, 0, 0);
        b.refuses(1, "plate", 0, 8);
        b.refuses(1, "plate", 0, -1);
        b.refuses(2, "plate", 6, 0);
        b.refuses(2, "plate", -1, 0);
        b.refuses(1, "plate", 6, 8);
        b = Bench.of("plate a bits #1;plate b bits #0;plate c square 5;plate d bits #1101;"
            + "plate e set 3;plate f bits #1100;");
        figures(b, 0, 1, 1, 1, 1, 1, 1);
        b.refuses(5, "plate", 0, 6);
        b.refuses(5, "plate", 0, 7);
        figures(b, 1, 1, 1, 0, -1, 0, 1);
        b.refuses(5, "plate", 1, 6);
        figures(b, 2, 5, 5, 12, 1, 12, 1, 0, 0);
        figures(b, 3, 4, 1, 3, 2, 3, 1, 1, 1);
        figures(b, 4, 3, 1, 0, -3, 0, 1, 0, 0);
        figures(b, 5, 4, 1, 2, 0, 2, 0, -2, 0);
    }

    private static String holes(Bench b, int k) {
        StringBuilder s = new StringBuilder();
        for (int y = 0; y < b.call("plate", k, 1); y++) {
            s.append(y == 0 ? "" : "/");
            for (int x = 0; x < b.call("plate", k, 0); x++) {
                s.append(b.call("cell", k, x, y, 0));
            }
        }
        return s.toString();
    }

    private static String weights(Bench b, int k) {
        StringBuilder s = new StringBuilder();
        for (int y = 0; y < b.call("plate", k, 1); y++) {
            s.append(y == 0 ? "" : "/");
            for (int x = 0; x < b.call("plate", k, 0); x++) {
                s.append(b.call("cell", k, x, y, 1) == 1 ? '+' : '-');
            }
        }
        return s.toString();
    }

    private static void form(String text, int k, String holes, String weights) {
        Bench b = Bench.of(text);
        Bench.same(holes(b, k), holes, text + " HOLES");
        Bench.same(weights(b, k), weights, text + " WEIGHTS");
    }

    private static void forms() {
        form("plate a row 7;", 0, "0110100", "-++-+--");
        form("plate a row 5;", 0, "01001", "++--+");
        form("plate a row 13;", 0, "0101100001101", "++-++----++-+");
        form("plate a bits #0110;", 0, "0110", "-++-");
        form("plate a set 6 5 0 2;", 0, "101001", "+-+--+");
        form("plate a set 2;", 0, "00", "--");
        form("plate a row 7;plate b turn a 2 5;", 1, "0001101", "---++-+");
        form("plate a row 7;plate b turn a 99 99;", 1, "0011010", "--++-+-");
        form("plate a row 5;plate b neg a;", 1, "10110", "--++-");
        form("plate a square 3;", 0, "011/010/001", "+++/-+-/--+");
        form("plate a square 3;plate b turn a 1 2;", 1, "001/100/101", "--+/+--/+++");
        form("plate a square 3;plate b neg a;", 1, "100/101/110", "---/+-+/++-");
        form("plate a bits #10;plate b bits #110;plate c both a b;", 2, "10/10/01", "+-/+-/-+");
        form("plate a row 3;plate b row 5;plate c both a b;", 2, "101/010/101/101/010",
            "-+-/-+-/+-+/+-+/-+-");
        form("plate a bits #10;plate b both a a;plate c turn b 1 0;", 2, "01/10", "-+/+-");
    }

    private static void cell() {
        Bench b = Bench.of("plate a row 7;plate b square 3;plate c bits #1100;");
        b.gives(1, "cell", 0, 4, 0, 0);
        b.gives(0, "cell", 0, 3, 0, 0);
        b.gives(1, "cell", 0, 4, 0, 1);
        b.gives(-1, "cell", 0, 3, 0, 1);
        b.gives(3, "cell", 0, 0, 0, 2);
        b.gives(-1, "cell", 0, 6, 0, 2);
        b.gives(4, "cell", 1, 0, 0, 2);
        b.gives(0, "cell", 1, 2, 1, 2);
        b.gives(2, "cell", 2, 0, 0, 2);
        b.gives(0, "cell", 2, 1, 0, 2);
        b.gives(-2, "cell", 2, 2, 0, 2);
        b.refuses(1, "cell", 0, 0, 0, 3);
        b.refuses(1, "cell", 0, 0, 0, -1);
        b.refuses(1, "cell", 9, 0, 0, 3);
        b.refuses(2, "cell", 3, 0, 0, 0);
        b.refuses(2, "cell", -1, 0, 0, 0);
        b.refuses(2, "cell", 0, 7, 0, 0);
        b.refuses(2, "cell", 0, -1, 0, 0);
        b.refuses(2, "cell", 0, 0, 1, 0);
        b.refuses(2, "cell", 0, 0, -1, 0);
        b.refuses(2, "cell", 1, 0, 3, 0);
    }

    private static void differences() {
        Bench b = Bench.of("plate a row 7;plate b row 5;plate c bits #1;plate d set 4;"
            + "plate e bits #1111;plate f bits #10;");
        b.gives(1, "differences", 0, 0);
        b.gives(1, "differences", 0, 1);
        b.gives(6, "differences", 0, 2);
        b.gives(0, "differences", 1, 0);
        b.gives(1, "differences", 1, 1);
        b.gives(2, "differences", 1, 2);
        b.refuses(5, "differences", 2, 0);
        b.refuses(5, "differences", 2, 2);
        b.gives(0, "differences", 3, 1);
        b.gives(3, "differences", 3, 2);
        b.gives(4, "differences", 4, 0);
        b.gives(3, "differences", 4, 2);
        b.gives(0, "differences", 5, 1);
        b.refuses(1, "differences", 0, 3);
        b.refuses(1, "differences", 2, -1);
        b.refuses(2, "differences", 6, 0);
        b.refuses(2, "differences", -1, 0);
        // HOLES 1,0 2,0 1,1 2,2: twice at 0,1 0,2 1,2 2,1, once at the others
        b = Bench.of("plate a square 3;");
        b.gives(1, "differences", 0, 0);
        b.gives(2, "differences", 0, 1);
        b.gives(4, "differences", 0, 2);
    }

    private static void window() {
        Bench b = Bench.of("plate a square 3;plate b row 7;");
        b.gives(4, "window", 0, 0, 0, 3, 3);
        b.gives(2, "window", 0, 1, 0, 2, 1);
        b.gives(3, "window", 0, 1, 0, 4, 1);
        b.gives(1, "window", 0, 2, 2, 1, 1);
        b.gives(0, "window", 0, 0, 0, 1, 99);
        b.gives(33 * 33 * 4, "window", 0, 2, 1, 99, 99);
        b.gives(2, "window", 0, 2, 2, 2, 2);
        b.gives(99 * 3 * 14, "window", 1, 5, 0, 98, 99);
        b.refuses(1, "window", 0, 0, 0, 0, 1);
        b.refuses(1, "window", 0, 0, 0, 1, 0);
        b.refuses(1, "window", 0, 0, 0, 100, 1);
        b.refuses(1, "window", 0, 0, 0, 1, 100);
        b.refuses(1, "window", 5, 0, 0, 1, 100);
        b.refuses(2, "window", 2, 0, 0, 1, 1);
        b.refuses(2, "window", -1, 0, 0, 1, 1);
        b.refuses(2, "window", 0, 3, 0, 1, 1);
        b.refuses(2, "window", 0, 0, -1, 1, 1);
    }

    private static void alike() {
        Bench b = Bench.of("plate a bits #1100;plate b bits #0110;plate c bits #1010;"
            + "plate d bits #11000;plate e row 3;plate f neg c;");
        b.gives(1, "alike", 0, 0);
        b.gives(1, "alike", 0, 1);
        b.gives(1, "alike", 1, 0);
        b.gives(0, "alike", 0, 2);
        b.gives(0, "alike", 0, 3);
        b.gives(0, "alike", 4, 0);
        b.gives(1, "alike", 2, 5);
        b.refuses(2, "alike", 0, 6);
        b.refuses(2, "alike", 6, 0);
        b.refuses(2, "alike", -1, 0);
        b = Bench.of("plate a square 5;plate b turn a 3 4;plate c neg a;plate d bits #10;"
            + "plate e bits #1;plate f both e d;");
        b.gives(1, "alike", 0, 1);
        b.gives(1, "alike", 1, 0);
        b.gives(0, "alike", 0, 2);
        b.gives(0, "alike", 3, 5);
        // as WIDE, as many HOLES, but not as HIGH
        b = Bench.of("plate a bits #11;plate b bits #10;plate c both a b;");
        b.gives(0, "alike", 0, 2);
        b.gives(0, "alike", 2, 0);
    }

    private static void root() {
        Bench b = new Bench();
        b.gives(1, "root", 3, 1);
        b.gives(3, "root", 7, 2);
        b.gives(8, "root", 17, 13);
        b.gives(7, "root", 47, 2);
        b.refuses(5, "root", 47, 46);
        b.refuses(5, "root", 3, 2);
        for (int p : new int[] {2, 1, 0, -3, -7, 9, 15, 45, 49, 53, 2147483647, -2147483648}) {
            b.refuses(1, "root", p, 1);
        }
        b.refuses(1, "root", 7, 0);
        b.refuses(1, "root", 7, 7);
        b.refuses(1, "root", 7, -1);
    }
}
