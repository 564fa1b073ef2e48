/** The edges of section 2's PLATES and of promises 7 to 12. */
public final class EdgePlateTest {
    private static final int LEAST = Integer.MIN_VALUE;
    private static final int MOST = Integer.MAX_VALUE;
    private static final int[] PRIMES = {3, 5, 7, 11, 13, 17, 19, 23, 29, 31, 37, 41, 43, 47};

    public static void main(String[] args) {
        rows();
        rowWeights();
        bitsAndSets();
        turnedRound();
        turnedHigh();
        negatives();
        bothSizes();
        squares();
        squareSides();
        differencesOfAll();
        sides();
        flat();
        plateNumbers();
        plateRefused();
        plateOneCell();
        cellPlaces();
        cellRefused();
        differences();
        differencesRefused();
        windowSizes();
        windowRound();
        windowRefused();
        alike();
        alikeRefused();
        root();
        rootRefused();
        Bench.end();
    }

    private static boolean isSquare(int n, int p) {
        for (int r = 1; r < p; r++) {
            if (r * r % p == n) {
                return true;
            }
        }
        return false;
    }

    /** All CELLS of a PLATE by y, then x, a / between its rows; what as cell() has it. */
    private static String cells(Bench b, int k, int wide, int high, int what) {
        StringBuilder s = new StringBuilder();
        for (int y = 0; y < high; y++) {
            s.append(y == 0 ? "" : "/");
            for (int x = 0; x < wide; x++) {
                long value = b.call("cell", k, x, y, what);
                s.append(what == 0 ? (char) ('0' + value) : value == 1 ? '+' : '-');
                Bench.same(b.status(), 0, "STATUS");
            }
        }
        return s.toString();
    }

    private static void looks(Bench b, int k, String holes, String weights) {
        int wide = holes.indexOf('/') < 0 ? holes.length() : holes.indexOf('/');
        int high = (holes.length() + 1) / (wide + 1);
        b.gives(wide, "plate", k, 0);
        b.gives(high, "plate", k, 1);
        Bench.same(cells(b, k, wide, high, 0), holes, "HOLES of PLATE " + k);
        Bench.same(cells(b, k, wide, high, 1), weights, "WEIGHTS of PLATE " + k);
    }

    private static void rows() {
        Bench.says("row p: p by 1; a HOLE at x, if x is not 0, and x is what is left of some "
            + "square by p");
        for (int p : PRIMES) {
            Bench b = Bench.of("plate a row " + p + ";");
            b.gives(p, "plate", 0, 0);
            b.gives(1, "plate", 0, 1);
            b.gives((p - 1) / 2, "plate", 0, 2);
            for (int x = 0; x < p; x++) {
                b.gives(isSquare(x, p) ? 1 : 0, "cell", 0, x, 0, 0);
            }
            b.refuses(2, "cell", 0, p, 0, 0);
        }
        looks(Bench.of("plate a row 3;"), 0, "010", "-+-");
    }

    private static void rowWeights() {
        Bench.says("WEIGHT 1 at HOLES, -1 else, but 1 at 0 if 1 is left of p by 4.");
        for (int p : PRIMES) {
            Bench b = Bench.of("plate a row " + p + ";");
            b.gives(p % 4 == 1 ? 1 : -1, "cell", 0, 0, 0, 1);
            b.gives(p % 4 == 1 ? 1 : -1, "plate", 0, 3);
            b.gives((p - 1) / 2, "plate", 0, 4);
            b.gives(1, "plate", 0, 5);
            b.gives(p % 4 == 1 ? 0 : -1, "plate", 0, 6);
            b.gives(p % 4 == 1 ? 0 : -1, "plate", 0, 7);
        }
        looks(Bench.of("plate a row 5;"), 0, "01001", "++--+");
        looks(Bench.of("plate a row 7;"), 0, "0110100", "-++-+--");
    }

    private static void bitsAndSets() {
        Bench.says("bits: as many as there are, by 1; HOLES at 1; set: WIDE by 1, HOLES at its "
            + "places; WEIGHT 1 at HOLES, -1 else.");
        Bench b = Bench.of("plate a bits #1;plate b bits #0;plate c bits #0111;plate d set 1;"
            + "plate e set 1 0;plate f set 6 5 0;");
        looks(b, 0, "1", "+");
        looks(b, 1, "0", "-");
        looks(b, 2, "0111", "-+++");
        looks(b, 3, "0", "-");
        looks(b, 4, "1", "+");
        looks(b, 5, "100001", "+----+");
        String bits = "1101000000000000000000000000000000000010";
        looks(Bench.of("plate a bits #" + bits + ";"), 0, bits, bits.replace('1', '+')
            .replace('0', '-'));
        // a set of a PLATE that was wider ahead
        b = Bench.of("plate a set 47 46 45 1 0;");
        b.load("plate a set 3 2;");
        looks(b, 0, "001", "--+");
        b.load("plate a bits #00;");
        looks(b, 0, "00", "--");
    }

    private static void turnedRound() {
        Bench.says("A PLATE is WIDE by HIGH CELLS (x, y), each a HOLE or not, and has a WEIGHT in "
            + "each. What lies beyond comes round (x modulo WIDE, y modulo HIGH).");
        String[] turned = {"1100", "0110", "0011", "1001"};
        for (int a = 0; a <= 99; a += a < 8 ? 1 : 13) {
            Bench b = Bench.of("plate a bits #1100;plate b turn a " + a + " 0;");
            String holes = turned[a % 4];
            looks(b, 1, holes, holes.replace('1', '+').replace('0', '-'));
        }
        // y of one that is one HIGH
        Bench b = Bench.of("plate a bits #1100;plate b turn a 0 99;plate c turn a 99 99;");
        looks(b, 1, "1100", "++--");
        looks(b, 2, "1001", "+--+");
        // one CELL
        b = Bench.of("plate a bits #1;plate b turn a 99 99;");
        looks(b, 1, "1", "+");
    }

    private static void turnedHigh() {
        Bench.says("turn A a b: HOLE, WEIGHT at x, y as A has at x less a, y less b.");
        Bench b = Bench.of("plate s square 3;plate a turn s 1 0;plate b turn s 0 1;"
            + "plate c turn s 2 1;plate d turn s 3 3;plate e turn s 98 97;");
        looks(b, 0, "011/010/001", "+++/-+-/--+");
        looks(b, 1, "101/001/100", "+++/--+/+--");
        looks(b, 2, "001/011/010", "--+/+++/-+-");
        looks(b, 3, "010/110/100", "-+-/+++/+--");
        looks(b, 4, "011/010/001", "+++/-+-/--+");
        looks(b, 5, "010/110/100", "-+-/+++/+--");
        // the WEIGHT that is no HOLE's goes with it
        b = Bench.of("plate a row 5;plate b turn a 2 0;");
        looks(b, 1, "01010", "-+++-");
    }

    private static void negatives() {
        Bench.says("neg A: HOLES where A has none; WEIGHT as A's times -1.");
        Bench b = Bench.of("plate a row 5;plate b neg a;plate c neg b;plate d bits #1;"
            + "plate e neg d;plate f neg e;");
        looks(b, 1, "10110", "--++-");
        looks(b, 2, "01001", "++--+");
        looks(b, 4, "0", "-");
        looks(b, 5, "1", "+");
        b = Bench.of("plate s square 17;plate n neg s;");
        b.gives(145, "plate", 1, 2);
        b.gives(-1, "plate", 1, 3);
        b.gives(0, "cell", 1, 16, 16, 0);
        b.gives(-1, "cell", 1, 16, 16, 1);
        b = Bench.of("plate s square 3;plate n neg s;plate t turn n 1 0;");
        looks(b, 1, "100/101/110", "---/+-+/++-");
        looks(b, 2, "010/110/011", "---/++-/-++");
    }

    private static void bothSizes() {
        Bench.says("both A B: WIDE as A, HIGH as B is WIDE; a HOLE at x, y, if A has one at x and "
            + "B at y, or neither; WEIGHT: A's at x times B's at y.");
        Bench b = Bench.of("plate a bits #10;plate b bits #011;plate c both a b;plate d both b a;"
            + "plate e bits #1;plate f both e b;");
        looks(b, 2, "01/10/10", "-+/+-/+-");
        looks(b, 3, "011/100", "-++/+--");
        looks(b, 5, "0/1/1", "-/+/+");
        b = Bench.of("plate e bits #1;plate b bits #011;plate c both b e;plate d both e e;"
            + "plate z bits #0;plate y both z b;");
        looks(b, 2, "011", "-++");
        looks(b, 3, "1", "+");
        looks(b, 5, "1/0/0", "+/-/-");
        // WEIGHTS that are not those of HOLES: at 0 of row 5
        b = Bench.of("plate a row 5;plate b bits #01;plate c both a b;plate d both b a;");
        looks(b, 2, "10110/01001", "--++-/++--+");
        looks(b, 3, "10/01/10/10/01", "-+/-+/+-/+-/-+");
        // 289 CELLS: the last row, the last CELL
        b = Bench.of("plate a row 17;plate b both a a;");
        b.gives(1, "cell", 1, 16, 16, 0);
        b.gives(1, "cell", 1, 0, 0, 0);
        b.gives(1, "cell", 1, 0, 3, 0);
        b.gives(-1, "cell", 1, 0, 3, 1);
        b.gives(0, "cell", 1, 16, 3, 0);
        b.gives(8 * 8 + 9 * 9, "plate", 1, 2);
        b.gives(1, "plate", 1, 3);
    }

    private static void squares() {
        Bench.says("square p: p by p; at x, y: no HOLE if x is 0; else a HOLE if y is 0; else if "
            + "x and y both are left of squares, or neither; WEIGHT 1 at HOLES and at 0, 0, else "
            + "-1.");
        looks(Bench.of("plate a square 3;"), 0, "011/010/001", "+++/-+-/--+");
        looks(Bench.of("plate a square 5;"), 0, "01111/01001/00110/00110/01001",
            "+++++/-+--+/--++-/--++-/-+--+");
        for (int p : new int[] {7, 11, 13, 17}) {
            Bench b = Bench.of("plate a square " + p + ";");
            for (int i = 0; i < p; i++) {
                b.gives(0, "cell", 0, 0, i, 0);
                b.gives(i == 0 ? 0 : 1, "cell", 0, i, 0, 0);
                b.gives(i == 0 ? 0 : 1, "cell", 0, i, i, 0);
                boolean alike = isSquare(i, p) == isSquare(p - 1, p);
                b.gives(i != 0 && alike ? 1 : 0, "cell", 0, i, p - 1, 0);
                b.gives(i != 0 && alike ? 1 : -1, "cell", 0, i, p - 1, 1);
            }
            b.gives(1, "cell", 0, 0, 0, 1);
            b.gives(-1, "cell", 0, 0, 1, 1);
            b.gives(1, "cell", 0, 1, 0, 1);
        }
    }

    private static void squareSides() {
        Bench.says("FLAT is a PLATE with all SIDES but the PEAK alike");
        for (int p : new int[] {3, 5, 7, 11, 13, 17}) {
            Bench b = Bench.of("plate a square " + p + ";plate b turn a 1 2;");
            for (int k = 0; k <= 1; k++) {
                b.gives((p * p - 1) / 2, "plate", k, 2);
                b.gives(1, "plate", k, 3);
                b.gives((p * p - 1) / 2, "plate", k, 4);
                b.gives(1, "plate", k, 5);
                b.gives(0, "plate", k, 6);
                b.gives(0, "plate", k, 7);
                b.gives(0, "cell", k, p - 1, p - 1, 2);
                b.gives((p * p - 1) / 2, "cell", k, 0, 0, 2);
            }
        }
    }

    private static void differencesOfAll() {
        Bench.says("DIFFERENCES of a PLATE: at s, t (all but 0, 0) how many HOLES x, y there are "
            + "for which x plus s, y plus t is a HOLE, too.");
        // the PEAK's place would be 2: it is left out
        Bench b = Bench.of("plate a bits #1010;plate b bits #11;plate c bits #10;plate d both c c;");
        b.gives(0, "differences", 0, 0);
        b.gives(2, "differences", 0, 1);
        b.gives(1, "differences", 0, 2);
        b.gives(2, "differences", 1, 0);
        b.gives(2, "differences", 1, 1);
        b.gives(1, "differences", 1, 2);
        b.gives(0, "differences", 2, 1);
        b.gives(1, "differences", 2, 2);
        // HOLES 0,0 and 1,1: twice at 1, 1, none at 1, 0 and 0, 1
        b.gives(0, "differences", 3, 0);
        b.gives(2, "differences", 3, 1);
        b.gives(1, "differences", 3, 2);
    }

    private static void sides() {
        Bench.says("SIDE of a PLATE at s, t: WEIGHTS at x plus s, y plus t for each HOLE x, y, "
            + "added. PEAK: that at 0, 0.");
        Bench b = Bench.of("plate a bits #1101;plate b bits #110000;plate c bits #0000;"
            + "plate d bits #11;plate e row 5;plate f neg e;");
        long[][] want = {{3, 1, 1, 1}, {2, 0, -2, -2, -2, 0}, {0, 0, 0, 0}, {2, 2}, {2, 0, 0, 0, 0},
            {1, -1, -1, -1, -1}};
        for (int k = 0; k < want.length; k++) {
            for (int s = 0; s < want[k].length; s++) {
                b.gives(want[k][s], "cell", k, s, 0, 2);
            }
            b.gives(want[k][0], "plate", k, 4);
        }
    }

    private static void flat() {
        Bench.says("FLAT is a PLATE with all SIDES but the PEAK alike (one of one CELL, too).");
        String[] forms = {"bits #1", "bits #0", "bits #10", "bits #11", "bits #00", "bits #110",
            "bits #1100", "bits #1101", "set 47", "set 47 0", "set 6 0 1 3", "set 13 0 1 3 9"};
        int[] want = {1, 1, 1, 1, 1, 1, 0, 1, 1, 1, 0, 1};
        for (int i = 0; i < forms.length; i++) {
            Bench.of("plate a " + forms[i] + ";").gives(want[i], "plate", 0, 5);
        }
        // only the last SIDE is another one
        Bench b = Bench.of("plate a bits #10;plate b both a a;");
        b.gives(0, "plate", 1, 5);
        b.gives(-2, "cell", 1, 1, 0, 2);
        b.gives(-2, "cell", 1, 0, 1, 2);
        b.gives(2, "cell", 1, 1, 1, 2);
    }

    private static void plateNumbers() {
        Bench.says("Of a PLATE, what 0: WIDE, 1: HIGH, 2: HOLES, 3: all WEIGHTS added, 4: PEAK, 5: "
            + "1 if it is FLAT, else 0, 6, 7: the least, the greatest SIDE but the PEAK");
        Bench b = Bench.of("plate a bits #10;plate b bits #110;plate c both a b;plate d neg c;"
            + "plate e bits #1100;");
        // c: HOLES 0,0 0,1 1,2; WEIGHTS +-/+-/-+
        int[] want = {2, 3, 3, 0, 3, 0, -3, 1};
        for (int what = 0; what <= 7; what++) {
            b.gives(want[what], "plate", 2, what);
        }
        int[] other = {4, 1, 2, 0, 2, 0, -2, 0};
        for (int what = 0; what <= 7; what++) {
            b.gives(other[what], "plate", 4, what);
        }
        Bench.says("STATUS tells NONE from -1.");
        b = Bench.of("plate a row 7;");
        b.gives(-1, "plate", 0, 3);
        b.gives(-1, "plate", 0, 6);
        b.refuses(2, "plate", 1, 6);
    }

    private static void plateRefused() {
        Bench.says("the least, the greatest SIDE but the PEAK (5: one CELL) (1; 2)");
        Bench b = Bench.of("plate a row 7;plate b bits #1;");
        for (int what : new int[] {LEAST, -1, 8, 9, MOST}) {
            b.refuses(1, "plate", 0, what);
            b.refuses(1, "plate", 1, what);
            b.refuses(1, "plate", 2, what);
            b.refuses(1, "plate", -1, what);
        }
        for (int k : new int[] {LEAST, -1, 2, 6, MOST}) {
            b.refuses(2, "plate", k, 0);
            b.refuses(2, "plate", k, 7);
        }
    }

    private static void plateOneCell() {
        Bench.says("the least, the greatest SIDE but the PEAK (5: one CELL)");
        Bench b = Bench.of("plate a bits #1;plate b set 1;plate c both a b;plate d bits #10;");
        int[][] want = {{1, 1, 1, 1, 1, 1}, {1, 1, 0, -1, 0, 1}, {1, 1, 0, -1, 0, 1}};
        for (int k = 0; k < 3; k++) {
            for (int what = 0; what <= 5; what++) {
                b.gives(want[k][what], "plate", k, what);
            }
            b.refuses(5, "plate", k, 6);
            b.refuses(5, "plate", k, 7);
        }
        b.gives(-1, "plate", 3, 6);
        b.gives(-1, "plate", 3, 7);
    }

    private static void cellPlaces() {
        Bench.says("At a CELL of a PLATE, what 0: 1 a HOLE, else 0, 1: its WEIGHT, 2: SIDE there");
        Bench b = Bench.of("plate a bits #10;plate b bits #110;plate c both a b;");
        // HOLES 10/10/01: SIDES 3 -3 at t 0, 1 and -1 twice
        int[][] side = {{3, -3}, {-1, 1}, {-1, 1}};
        for (int y = 0; y < 3; y++) {
            for (int x = 0; x < 2; x++) {
                b.gives(side[y][x], "cell", 2, x, y, 2);
            }
        }
        b.gives(1, "cell", 2, 1, 2, 0);
        b.gives(0, "cell", 2, 1, 0, 0);
        b.gives(1, "cell", 2, 1, 2, 1);
        b.gives(-1, "cell", 2, 1, 0, 1);
        // one CELL has one SIDE
        b = Bench.of("plate a bits #1;plate b bits #0;");
        b.gives(1, "cell", 0, 0, 0, 2);
        b.gives(0, "cell", 1, 0, 0, 2);
    }

    private static void cellRefused() {
        Bench.says("(2: no such PLATE, x, y not on it; 1); STATUS tells NONE from -1.");
        Bench b = Bench.of("plate a bits #10;plate b bits #110;plate c both a b;");
        for (int what : new int[] {LEAST, -1, 3, MOST}) {
            b.refuses(1, "cell", 2, 0, 0, what);
            b.refuses(1, "cell", 3, 0, 0, what);
            b.refuses(1, "cell", 2, 2, 3, what);
        }
        for (int k : new int[] {LEAST, -1, 3, 6, MOST}) {
            b.refuses(2, "cell", k, 0, 0, 0);
        }
        for (int x : new int[] {LEAST, -1, 2, 3, MOST}) {
            b.refuses(2, "cell", 2, x, 0, 0);
        }
        for (int y : new int[] {LEAST, -1, 3, 4, MOST}) {
            b.refuses(2, "cell", 2, 0, y, 2);
        }
        b.refuses(2, "cell", 0, 0, 1, 1);
        b.gives(1, "cell", 2, 1, 2, 1);
    }

    private static void differences() {
        Bench.says("DIFFERENCES of a PLATE, what 0: the least, 1: the greatest, 2: at how many s, "
            + "t it is (1; 2; 5: one CELL).");
        // HOLES 0 1 3 of 6: at 1 2 3 4 5 so often 1 1 2 1 1
        Bench b = Bench.of("plate a set 6 0 1 3;plate b set 4;plate c set 4 0 1 2 3;plate d set 2;");
        b.gives(1, "differences", 0, 0);
        b.gives(2, "differences", 0, 1);
        b.gives(1, "differences", 0, 2);
        b.gives(0, "differences", 1, 0);
        b.gives(0, "differences", 1, 1);
        b.gives(3, "differences", 1, 2);
        b.gives(4, "differences", 2, 0);
        b.gives(4, "differences", 2, 1);
        b.gives(3, "differences", 2, 2);
        b.gives(0, "differences", 3, 0);
        b.gives(1, "differences", 3, 2);
        // as many CELLS as there may be: all of them HOLES, since neither of both has one
        b = Bench.of("plate a set 17;plate b both a a;plate c set 47 0;");
        b.gives(289, "differences", 1, 0);
        b.gives(289, "differences", 1, 1);
        b.gives(288, "differences", 1, 2);
        b.gives(0, "differences", 2, 1);
        b.gives(46, "differences", 2, 2);
    }

    private static void differencesRefused() {
        Bench.says("2: at how many s, t it is (1; 2; 5: one CELL).");
        Bench b = Bench.of("plate a bits #1;plate b bits #0;plate c bits #10;");
        for (int what = 0; what <= 2; what++) {
            b.refuses(5, "differences", 0, what);
            b.refuses(5, "differences", 1, what);
            b.refuses(2, "differences", 3, what);
            b.refuses(2, "differences", -1, what);
        }
        for (int what : new int[] {LEAST, -1, 3, MOST}) {
            b.refuses(1, "differences", 0, what);
            b.refuses(1, "differences", 2, what);
            b.refuses(1, "differences", 3, what);
        }
        b.refuses(2, "differences", LEAST, 0);
        b.refuses(2, "differences", MOST, 0);
    }

    private static void windowSizes() {
        Bench.says("HOLES of a PLATE in a window: x, y and so many to the right, down (w, h 1 to "
            + "99; coming round, CELLS counted as often as they are met)");
        // HOLES 011/010/001
        Bench b = Bench.of("plate a square 3;plate b bits #1;plate c bits #0;");
        b.gives(0, "window", 0, 0, 0, 1, 1);
        b.gives(1, "window", 0, 1, 0, 1, 1);
        b.gives(1, "window", 0, 2, 2, 1, 1);
        b.gives(2, "window", 0, 0, 0, 3, 1);
        b.gives(2, "window", 0, 1, 0, 1, 3);
        b.gives(4, "window", 0, 0, 0, 3, 3);
        b.gives(99 * 99, "window", 1, 0, 0, 99, 99);
        b.gives(99, "window", 1, 0, 0, 99, 1);
        b.gives(99, "window", 1, 0, 0, 1, 99);
        b.gives(0, "window", 2, 0, 0, 99, 99);
        b.gives(33 * 33 * 4, "window", 0, 0, 0, 99, 99);
        b.gives(33 * 33 * 4, "window", 0, 2, 2, 99, 99);
        b = Bench.of("plate a square 17;");
        b.gives(144, "window", 0, 16, 16, 17, 17);
        b.gives(25 * 144, "window", 0, 16, 16, 85, 85);
        b.gives(5 * 144, "window", 0, 1, 15, 85, 17);
    }

    private static void windowRound() {
        Bench.says("coming round, CELLS counted as often as they are met");
        Bench b = Bench.of("plate a square 3;plate b bits #100;");
        b.gives(1, "window", 0, 2, 0, 2, 1);
        b.gives(2, "window", 0, 2, 2, 1, 2);
        b.gives(2, "window", 0, 2, 2, 2, 2);
        b.gives(3, "window", 0, 1, 0, 4, 1);
        b.gives(0, "window", 1, 1, 0, 2, 1);
        b.gives(1, "window", 1, 1, 0, 3, 1);
        b.gives(2, "window", 1, 0, 0, 4, 1);
        b.gives(2, "window", 1, 0, 0, 1, 2);
        b.gives(4, "window", 1, 0, 0, 4, 2);
        b.gives(33 * 99, "window", 1, 2, 0, 99, 99);
        b.gives(33 * 2, "window", 1, 0, 0, 97, 2);
        b.gives(32 * 2, "window", 1, 0, 0, 96, 2);
    }

    private static void windowRefused() {
        Bench.says("(1: w, h; 2: no such PLATE, x, y not on it).");
        Bench b = Bench.of("plate a square 3;plate b bits #100;");
        for (int size : new int[] {LEAST, -1, 0, 100, MOST}) {
            b.refuses(1, "window", 0, 0, 0, size, 1);
            b.refuses(1, "window", 0, 0, 0, 1, size);
            b.refuses(1, "window", 2, 0, 0, 1, size);
            b.refuses(1, "window", 0, 3, 0, size, 1);
        }
        for (int k : new int[] {LEAST, -1, 2, MOST}) {
            b.refuses(2, "window", k, 0, 0, 1, 1);
        }
        for (int place : new int[] {LEAST, -1, 3, MOST}) {
            b.refuses(2, "window", 0, place, 0, 1, 1);
            b.refuses(2, "window", 0, 0, place, 1, 1);
        }
        b.refuses(2, "window", 1, 0, 1, 1, 1);
    }

    private static void alike() {
        Bench.says("1 if two PLATES have the same size and the same HOLES, if the second is turned "
            + "by some a, b, else 0 (2).");
        Bench b = Bench.of("plate a bits #1101;plate b bits #0111;plate c bits #0110;"
            + "plate d bits #11010;plate e set 4;plate f set 4 0 1 2 3;");
        long[][] want = {{1, 1, 0, 0, 0, 0}, {1, 1, 0, 0, 0, 0}, {0, 0, 1, 0, 0, 0},
            {0, 0, 0, 1, 0, 0}, {0, 0, 0, 0, 1, 0}, {0, 0, 0, 0, 0, 1}};
        for (int k = 0; k < 6; k++) {
            for (int other = 0; other < 6; other++) {
                b.gives(want[k][other], "alike", k, other);
            }
        }
        // only by the last of all turns; by WEIGHTS they may be apart
        b = Bench.of("plate a square 3;plate b turn a 2 2;plate c turn a 1 1;plate d row 5;"
            + "plate e set 5 1 4;plate f set 5 2 3;");
        b.gives(1, "alike", 0, 1);
        b.gives(1, "alike", 0, 2);
        b.gives(1, "alike", 1, 2);
        b.gives(1, "alike", 3, 4);
        b.gives(0, "alike", 3, 5);
        // no mirror: as many HOLES, as far apart, the other way round
        b = Bench.of("plate a bits #1101000;plate b bits #1011000;plate c bits #1000000;");
        b.gives(0, "alike", 0, 1);
        b.gives(0, "alike", 0, 2);
        // as many CELLS, WIDE and HIGH the other way round
        b = Bench.of("plate a bits #11;plate b bits #1;plate c both a b;plate d both b a;");
        b.gives(1, "alike", 0, 2);
        b.gives(0, "alike", 0, 3);
        b.gives(0, "alike", 3, 0);
        // as WIDE, as many HOLES, not as HIGH
        b = Bench.of("plate a bits #11;plate b bits #10;plate c both a b;");
        b.gives(0, "alike", 0, 2);
        b.gives(0, "alike", 2, 0);
        // 289 CELLS
        b = Bench.of("plate a square 17;plate b turn a 16 16;plate c neg b;");
        b.gives(1, "alike", 0, 1);
        b.gives(1, "alike", 1, 0);
        b.gives(0, "alike", 0, 2);
        // one CELL
        b = Bench.of("plate a bits #1;plate b bits #0;plate c set 1 0;");
        b.gives(1, "alike", 0, 2);
        b.gives(0, "alike", 0, 1);
    }

    private static void alikeRefused() {
        Bench.says("if the second is turned by some a, b, else 0 (2).");
        Bench b = Bench.of("plate a row 3;plate b row 5;");
        for (int k : new int[] {LEAST, -1, 2, 6, MOST}) {
            b.refuses(2, "alike", k, 0);
            b.refuses(2, "alike", 0, k);
            b.refuses(2, "alike", k, k);
        }
    }

    private static void root() {
        Bench.says("The least r above 0 whose square leaves n by a PRIME p");
        for (int p : PRIMES) {
            Bench b = new Bench();
            for (int n = 1; n < p; n++) {
                int least = 0;
                for (int r = p - 1; r >= 1; r--) {
                    least = r * r % p == n ? r : least;
                }
                if (least > 0) {
                    b.gives(least, "root", p, n);
                } else {
                    b.refuses(5, "root", p, n);
                }
            }
        }
        Bench b = new Bench();
        b.gives(1, "root", 3, 1);
        b.gives(2, "root", 5, 4);
        b.gives(4, "root", 17, 16);
        b.gives(23, "root", 47, 12);
    }

    private static void rootRefused() {
        Bench.says("(1: p is no PRIME, n not 1 to p less 1; 5: n is left of no square).");
        for (int p = -3; p <= 130; p++) {
            boolean prime = false;
            for (int q : PRIMES) {
                prime = prime || p == q;
            }
            Bench b = new Bench();
            if (prime) {
                b.gives(1, "root", p, 1);
                for (int n : new int[] {LEAST, -1, 0, p, p + 1, MOST}) {
                    b.refuses(1, "root", p, n);
                }
            } else {
                b.refuses(1, "root", p, 1);
            }
        }
        Bench b = new Bench();
        for (int p : new int[] {LEAST, -7, 65537, 2147483629, MOST}) {
            b.refuses(1, "root", p, 1);
            b.refuses(1, "root", p, 4);
        }
        b.refuses(5, "root", 3, 2);
        b.refuses(5, "root", 47, 46);
        b.refuses(5, "root", 5, 3);
    }
}
