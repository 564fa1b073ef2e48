/** The edges of promises 1 to 6: a new object, status, feed, load, fault, many. */
public final class EdgeBenchTest {
    private static final int LEAST = Integer.MIN_VALUE;
    private static final int MOST = Integer.MAX_VALUE;
    private static final String RICH = "plate a row 7;plate b neg a;source 1 2 3;source 4 5 6;"
        + "lost 4 5;stray 6 7 8;back 9;use b;";

    public static void main(String[] args) {
        newObject();
        newObjectScene();
        newObjectSeen();
        statusOfLatest();
        statusOfNone();
        feedOrder();
        feedMost();
        loadLength();
        loadEmptiesTape();
        loadRefusedKeepsTape();
        loadPlates();
        loadForgets();
        loadAnew();
        loadAnewPlates();
        faultTold();
        faultStays();
        manyNumbers();
        manyUsed();
        manyActs();
        Bench.end();
    }

    private static void newObject() {
        Bench.says("No PLATES, nothing there; STATUS 0.");
        Bench b = new Bench();
        b.tells(0, "status");
        b.tells(-1, "fault", 0);
        b.tells(0, "status");
        for (int what : new int[] {0, 1, 2, 3, 4, 6}) {
            b.gives(0, "many", what);
        }
        b.refuses(5, "many", 5);
        b.refuses(5, "undo");
        b.refuses(1, "load", 1);
        b.gives(0, "load", 0);
        Bench.says("`NONE = -1`: None.");
        Bench.same(MaskBench.NONE, -1, "NONE");
    }

    private static void newObjectScene() {
        Bench.says("No PLATES, nothing there; STATUS 0.");
        Bench b = new Bench();
        for (int kind = 0; kind <= 2; kind++) {
            b.refuses(2, "thing", kind, 0, 0);
        }
        b.refuses(2, "drop", 0, 0);
        b.refuses(2, "drop", 2, 0);
        b.refuses(2, "heal", 0);
        b.refuses(4, "light", 0);
        b.refuses(2, "use", 0);
        b.refuses(5, "slide", 1, 1);
        // things can come without a PLATE
        b.gives(0, "add", 0, 1, 2, 3);
        b.gives(0, "add", 2, 1, 2, 3);
        b.gives(1, "lose", 1, 2);
        b.gives(0, "light", 4);
        b.gives(1, "slide", 1, 1);
        b.gives(5, "many", 6);
        Bench.same(b.printed(), "source 2 3 3;lost 1 2;stray 1 2 3;back 4;", "print()");
        b.gives(4, "undo");
    }

    private static void newObjectSeen() {
        Bench.says("No PLATES, nothing there; STATUS 0.");
        Bench b = new Bench();
        b.refuses(2, "plate", 0, 0);
        b.refuses(2, "cell", 0, 0, 0, 0);
        b.refuses(2, "differences", 0, 0);
        b.refuses(2, "window", 0, 0, 0, 1, 1);
        b.refuses(2, "alike", 0, 0);
        for (int what = 0; what <= 5; what++) {
            b.refuses(2, "at", 0, 0, what);
        }
        for (int what = 0; what <= 7; what++) {
            b.refuses(2, "all", what);
        }
        for (int what = 0; what <= 3; what++) {
            b.refuses(2, "peak", what);
            b.refuses(2, "shots", 1, 1, what);
        }
        b = new Bench();
        b.refuses(2, "found", -1, 0);
        b.refuses(2, "found", 0, 2);
        b.refuses(2, "frames", 1, 1, 0, 0);
        b.refuses(2, "filled", 0);
        b.refuses(2, "filled", 1);
        b.refuses(2, "coarse", 2, 0);
        b.refuses(2, "anti", 0, 0);
        b.refuses(2, "keep");
        b.refuses(2, "match", 0);
        b.refuses(2, "minus", 0, 0);
        b.refuses(5, "best", 0);
        b.refuses(2, "worst", 0);
        b.refuses(5, "out", 0);
        b.gives(7, "print");
        Bench.same(b.out(), "back 0;", "OUT");
    }

    private static void statusOfLatest() {
        Bench.says("STATUS of the latest call that has one.");
        Bench b = Bench.of(RICH);
        b.tells(0, "status");
        b.refuses(1, "many", 7);
        b.tells(1, "status");
        b.tells(1, "status");
        b.refuses(2, "plate", 2, 0);
        b.tells(2, "status");
        b.refuses(4, "light", 9);
        b.tells(4, "status");
        b.refuses(5, "undo");
        b.tells(5, "status");
        b.gives(2, "many", 0);
        b.tells(0, "status");
        for (int k = 1; k < 8; k++) {
            b.gives(k, "add", 2, 0, 0, 1);
        }
        b.refuses(3, "add", 2, 0, 0, 1);
        b.tells(3, "status");
        b.feed("?");
        b.refuses(9, "load", 1);
        b.tells(9, "status");
        Bench.says("9 a FAULT. 0 else.");
        b.gives(2, "many", 0);
        b.tells(0, "status");
        // a long one, too
        b.refuses(5, "match", 0);
        b.tells(5, "status");
        b.gives(7, "keep");
        b.gives(0, "match", 0);
        b.tells(0, "status");
    }

    private static void statusOfNone() {
        Bench.says("status(), feed(), fault() have none.");
        Bench b = Bench.of(RICH);
        b.refuses(5, "undo");
        b.tells(20, "feed", 0, 0, 0, 0, 0);
        b.tells(0, "fault", 0);
        b.tells(-1, "fault", 1);
        b.tells(-1, "fault", 9);
        b.tells(5, "status");
        for (int n = 40; n <= 800; n += 20) {
            b.tells(n, "feed", 0, 0, 0, 0, 0);
        }
        b.tells(-1, "feed", 0, 0, 0, 0, 0);
        b.tells(5, "status");
    }

    private static void feedOrder() {
        Bench.says("Twenty bytes come behind those on the tape, the highest of each int first");
        // "source 10 20 30;back" " 12;lost 1 2;stray 3" " 4 5;               "
        Bench b = new Bench();
        b.tells(20, "feed", 0x736f7572, 0x63652031, 0x30203230, 0x2033303b, 0x6261636b);
        b.tells(40, "feed", 0x2031323b, 0x6c6f7374, 0x20312032, 0x3b737472, 0x61792033);
        b.tells(60, "feed", 0x20342035, 0x3b202020, 0x20202020, 0x20202020, 0x20202020);
        b.gives(0, "load", 60);
        Bench.same(b.printed(), "source 10 20 30;lost 1 2;stray 3 4 5;back 12;", "print()");
        // bytes above 127 are no TOKENS, and no others' either
        b.tells(20, "feed", 0x80000000, 0, 0, 0, 0);
        b.refuses(9, "load", 1);
        b.tells(1, "fault", 0);
        b.tells(20, "feed", 0x200a20ff, -1, -1, -1, -1);
        b.refuses(9, "load", 20);
        b.tells(1, "fault", 0);
        b.tells(3, "fault", 1);
    }

    private static void feedMost() {
        Bench.says("how many it has; NONE if there would be more than 800.");
        Bench b = new Bench();
        for (int n = 20; n <= 800; n += 20) {
            b.tells(n, "feed", 0x20202020, 0x20202020, 0x20202020, 0x20202020, 0x20202020);
        }
        // refused, and the tape stays as it was
        b.tells(-1, "feed", 0x3f3f3f3f, 0, 0, 0, 0);
        b.checkUnchanged("feed()");
        b.tells(-1, "feed", 0x3f3f3f3f, 0, 0, 0, 0);
        b.gives(0, "load", 800);
        b.tells(20, "feed", 0, 0, 0, 0, 0);
    }

    private static void loadLength() {
        Bench.says("(1: n below 0, above what the tape has; 9)");
        Bench b = new Bench();
        for (int n : new int[] {LEAST, -800, -1, 1, 20, 800, MOST}) {
            b.refuses(1, "load", n);
        }
        b.feed("back 1;");
        for (int n : new int[] {LEAST, -1, 21, 800, MOST}) {
            b.refuses(1, "load", n);
        }
        b.gives(0, "load", 7);
        b.gives(1, "many", 4);
        // all that the tape has
        b.feed("back 2;");
        b.call("feed", 0, 0, 0, 0, 0);
        b.refuses(1, "load", 41);
        b.refuses(9, "load", 40);
        b.tells(20, "fault", 1);
        b.feed("back 3;             ");
        b.refuses(1, "load", 21);
        b.gives(0, "load", 20);
        b.gives(3, "many", 4);
        // none of it
        b.feed("back 4;");
        b.gives(0, "load", 0);
        b.gives(0, "many", 4);
        b.refuses(1, "load", 1);
    }

    private static void loadEmptiesTape() {
        Bench.says("The first n bytes of the tape (which is empty then, also with 9) are a BENCH");
        Bench b = new Bench();
        b.feed("back 5;plate a row 3;source 1 1 1;");
        b.gives(0, "load", 7);
        b.refuses(1, "load", 1);
        b.tells(20, "feed", 0x20202020, 0x20202020, 0x20202020, 0x20202020, 0x20202020);
        b.gives(0, "load", 20);
        b.feed("back ?;");
        b.refuses(9, "load", 7);
        b.refuses(1, "load", 1);
        b.tells(20, "feed", 0x20202020, 0x20202020, 0x20202020, 0x20202020, 0x20202020);
        b.refuses(1, "load", 21);
        b.gives(0, "load", 20);
    }

    private static void loadRefusedKeepsTape() {
        Bench.says("and changes nothing else (but load() with 9: the tape and what fault() tells)");
        Bench b = Bench.of(RICH);
        b.gives(9, "light", 8);
        b.gives(7, "keep");
        b.gives(RICH.length(), "print");
        b.feed("back 33;");
        b.refuses(1, "load", 21);
        b.refuses(1, "load", -1);
        b.gives(0, "load", 8);
        b.gives(33, "many", 4);
    }

    private static void loadPlates() {
        Bench.says("are a BENCH: how many PLATES");
        Bench b = new Bench();
        Bench.same(b.load("back 1;"), 0, "load()");
        Bench.same(b.load("plate a row 3;"), 1, "load()");
        StringBuilder six = new StringBuilder();
        for (char name = 'a'; name <= 'f'; name++) {
            six.append("plate ").append(name).append(" row 3;");
        }
        Bench.same(b.load(six.toString()), 6, "load()");
        Bench.same(b.status(), 0, "STATUS");
        Bench.same(b.load(""), 0, "load()");
    }

    private static void loadForgets() {
        Bench.says("load() forgets them.");
        Bench b = Bench.of(RICH);
        b.gives(9, "light", 8);
        b.gives(1, "many", 6);
        // not with another STATUS
        b.refuses(1, "load", 1);
        b.gives(1, "many", 6);
        b.feed("?");
        b.refuses(9, "load", 1);
        b.gives(1, "many", 6);
        b.load(RICH);
        b.gives(0, "many", 6);
        b.refuses(5, "undo");
        b.gives(9, "many", 4);
    }

    /** What a text told leaves nothing for the next ones, nor does one with a FAULT. */
    private static void loadAnew() {
        Bench.says("The first n bytes of the tape (which is empty then, also with 9) are a BENCH");
        Bench b = Bench.of(RICH);
        for (int i = 0; i < 4; i++) {
            b.load("plate x row 5;");
            Bench.same(b.printed(), "plate x row 5;back 0;use x;", "print() of load() " + i);
            b.load("plate y row 3;plate z row 3;lost 1 1;back 7;use z;source 0 0 0;");
            Bench.same(b.printed(), "plate x row 5;back 0;use x;", "print() behind a FAULT");
            b.load(i % 2 == 0 ? RICH : "back 4;");
            Bench.same(b.printed(), i % 2 == 0 ? RICH : "back 4;", "print() of another");
        }
        b = Bench.of("plate a row 3;plate b row 3;use b;");
        b.load("back 1;");
        b.load("plate c row 3;plate d row 3;");
        b.gives(0, "many", 5);
        b.load("plate e row 3;");
        b.gives(0, "many", 5);
    }

    private static void loadAnewPlates() {
        Bench.says("The first n bytes of the tape (which is empty then, also with 9) are a BENCH");
        // HOLES, WEIGHTS and SIDES are not those of a PLATE with this number two texts ahead
        Bench b = new Bench();
        for (int i = 0; i < 3; i++) {
            b.load("plate a set 5 0 1 2 3 4;plate b turn a 0 0;");
            b.gives(5, "plate", 0, 2);
            b.gives(5, "plate", 1, 4);
        }
        for (int i = 0; i < 3; i++) {
            b.load("plate a set 5;plate b turn a 0 0;");
            b.gives(0, "plate", 0, 2);
            b.gives(0, "plate", 1, 2);
            b.gives(-5, "plate", 1, 3);
            b.gives(0, "plate", 0, 4);
            b.gives(0, "plate", 1, 7);
        }
        for (int i = 0; i < 3; i++) {
            b.load("plate a bits #10000;plate b turn a 1 0;");
            b.gives(1, "plate", 0, 2);
            b.gives(1, "cell", 1, 1, 0, 0);
            b.gives(0, "cell", 1, 0, 0, 0);
            b.gives(-1, "cell", 1, 0, 0, 1);
            b.gives(-1, "plate", 1, 6);
        }
        for (int i = 0; i < 3; i++) {
            b.load("plate a set 5 1;plate b turn a 1 0;");
            b.gives(0, "cell", 0, 0, 0, 0);
            b.gives(1, "cell", 1, 2, 0, 0);
            b.gives(0, "cell", 1, 1, 0, 0);
        }
    }

    private static void faultTold() {
        Bench.says("Of the latest load() with STATUS 0 or 9, what 0: the FAULT (0 without one), 1: "
            + "its place (NONE without).");
        Bench b = new Bench();
        b.load("back 1;");
        b.tells(0, "fault", 0);
        b.tells(-1, "fault", 1);
        String[] texts = {"?", " 1", "back 100;", "use a;", "plate a square 3;plate b both a a;",
            "lost 1 1;".repeat(13)};
        int[] places = {0, 1, 5, 4, 30, 108};
        for (int kind = 1; kind <= 6; kind++) {
            b.load(texts[kind - 1]);
            b.tells(kind, "fault", 0);
            b.tells(places[kind - 1], "fault", 1);
        }
        b.load("");
        b.tells(0, "fault", 0);
        b.tells(-1, "fault", 1);
        Bench.says("NONE for others, and ahead of any.");
        for (int what : new int[] {LEAST, -1, 2, 3, MOST}) {
            b.tells(-1, "fault", what);
        }
        b.load("?");
        for (int what : new int[] {LEAST, -1, 2, 3, MOST}) {
            b.tells(-1, "fault", what);
        }
        b = new Bench();
        for (int what = -1; what <= 2; what++) {
            b.tells(-1, "fault", what);
        }
    }

    private static void faultStays() {
        Bench.says("Of the latest load() with STATUS 0 or 9");
        Bench b = new Bench();
        b.refuses(1, "load", 1);
        b.tells(-1, "fault", 0);
        b.tells(-1, "fault", 1);
        b.load("back 100;");
        b.refuses(1, "load", 1);
        b.tells(3, "fault", 0);
        b.tells(5, "fault", 1);
        b.gives(0, "light", 5);
        b.gives(0, "undo");
        b.tells(3, "fault", 0);
        b.load("back 1;");
        b.refuses(1, "load", -1);
        b.tells(0, "fault", 0);
        b.tells(-1, "fault", 1);
    }

    private static void manyNumbers() {
        Bench.says("PLATES (what 0), SOURCES (1), LOST (2), STRAYS (3), BACK (4), the PLATE that "
            + "is used (5; 5: none), ACTS that can be undone (6) (1).");
        Bench b = Bench.of("plate a row 7;plate b neg a;plate c neg b;source 1 2 3;source 4 5 6;"
            + "lost 4 5;lost 4 5;lost 4 5;lost 4 5;stray 6 7 8;back 9;use c;");
        int[] want = {3, 2, 4, 1, 9, 2, 0};
        for (int what = 0; what <= 6; what++) {
            b.gives(want[what], "many", what);
        }
        for (int what : new int[] {LEAST, -1, 7, MOST}) {
            b.refuses(1, "many", what);
        }
    }

    private static void manyUsed() {
        Bench.says("the PLATE that is used (5; 5: none)");
        Bench b = new Bench();
        b.refuses(5, "many", 5);
        b.load("plate a row 3;");
        b.gives(0, "many", 5);
        b.load("back 1;");
        b.refuses(5, "many", 5);
        b.refuses(1, "many", 7);
    }

    private static void manyActs() {
        Bench.says("12 are kept");
        Bench b = Bench.of("plate a row 3;");
        for (int act = 1; act <= 15; act++) {
            b.gives(act - 1, "light", act);
            b.gives(Math.min(act, 12), "many", 6);
        }
        b.refuses(4, "light", 15);
        b.gives(12, "many", 6);
        for (int left = 11; left >= 0; left--) {
            b.gives(left, "undo");
            b.gives(left, "many", 6);
            b.gives(left + 3, "many", 4);
        }
        b.refuses(5, "undo");
        b.gives(0, "many", 6);
        b.gives(3, "many", 4);
    }
}
