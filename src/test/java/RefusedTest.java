import java.util.List;

/** Section 4: STATUS of a call is the first that holds; a refused call changes nothing else. */
public final class RefusedTest {
    private static final String TEXT = "plate a row 7;plate b bits #1100;plate c square 3;"
        + "plate d bits #1;plate e set 4;source 2 0 10;source 1 1 5;lost 3 0;lost 9 9;stray 0 0 5;"
        + "back 1;";

    public static void main(String[] args) {
        refusedByOne();
        refusedByTwo();
        refusedByThree();
        refusedByFour();
        refusedByFive();
        refusedByNine();
        firstThatHolds();
        belowZero();
        noneOrBelowZero();
        Bench.end();
    }

    /** One with all that a call could change: ACTS, undone ones, PICTURE, OUT, tape, a FAULT. */
    private static Bench rich() {
        Bench b = Bench.of(TEXT);
        b.load("back 100;");
        b.gives(7, "keep");
        b.call("print");
        b.gives(1, "light", 2);
        b.gives(2, "add", 0, 5, 0, 7);
        b.gives(3, "lose", 5, 0);
        b.gives(3, "slide", 1, 1);
        b.gives(3, "undo");
        b.feed("plate q row 3;back 77;");
        return b;
    }

    private static final String[] BY_ONE = {"load -1", "load 41", "many -1", "many 7", "plate 0 -1",
        "plate 0 8", "cell 0 0 0 -1", "cell 0 0 0 3", "differences 0 -1", "differences 0 3",
        "window 0 0 0 0 1", "window 0 0 0 1 100", "root 9 1", "root 7 0", "root 7 7",
        "thing -1 0 0", "thing 3 0 0", "thing 1 0 2", "thing 0 0 3", "add 1 0 0 1", "add 0 100 0 1",
        "add 0 0 -1 1", "add 0 0 0 0", "add 2 0 0 1000", "drop 1 0", "drop 3 0", "lose 100 0",
        "lose 0 -1", "light -1", "light 100", "slide -1 0", "slide 0 100", "at 0 0 -1", "at 0 0 6",
        "all -1", "all 8", "peak -1", "peak 4", "found -2 0", "found -1 1", "found 0 3",
        "frames 0 1 0 0", "frames 21 1 0 0", "frames 1 0 0 0", "frames 1 100 0 0", "filled -1",
        "filled 2", "coarse 1 0", "coarse 7 -1", "match -1", "match 3", "shots 0 1 0",
        "shots 501 1 0", "shots 1 0 0", "shots 1 65537 0", "shots 1 1 4", "best -1", "best 2",
        "worst -1", "worst 3", "out -1"};
    private static final String[] BY_TWO = {"plate 5 0", "plate -1 0", "cell 5 0 0 0",
        "cell 0 7 0 0", "cell 0 0 1 0", "cell 0 -1 0 0", "differences 5 0", "window 5 0 0 1 1",
        "window 0 7 0 1 1", "window 0 0 1 1 1", "alike 5 0", "alike 0 -1", "thing 0 3 0",
        "thing 1 3 0", "thing 2 1 0", "thing 2 -1 0", "drop 0 3", "drop 2 1", "drop 2 -1", "heal 3",
        "heal -1", "use 5", "use -1", "at 7 0 0", "at 0 1 4", "frames 1 1 7 0", "frames 1 1 0 -1",
        "anti 7 0", "anti 0 1", "minus 7 0", "minus 0 -1"};

    private static void refuse(Bench b, int status, String call) {
        String[] words = call.split(" ");
        int[] args = new int[words.length - 1];
        for (int i = 0; i < args.length; i++) {
            args[i] = Integer.parseInt(words[i + 1]);
        }
        b.refuses(status, words[0], args);
    }

    private static void refusedByOne() {
        Bench.says("1 a number that can't be (below 0, too, of one that counts).");
        for (String call : BY_ONE) {
            refuse(rich(), 1, call);
        }
    }

    private static void refusedByTwo() {
        Bench.says("2 no such PLATE, CELL, SOURCE, LOST, STRAY.");
        for (String call : BY_TWO) {
            refuse(rich(), 2, call);
        }
    }

    private static void refusedByThree() {
        Bench.says("3 one too many.");
        Bench b = rich();
        for (int k = 3; k < 8; k++) {
            b.gives(k, "add", 0, k, k, k);
        }
        for (int k = 1; k < 8; k++) {
            b.gives(k, "add", 2, k, k, k);
        }
        for (int k = 3; k < 12; k++) {
            b.gives(k + 1, "lose", 20 + k, k);
        }
        refuse(b, 3, "add 0 1 1 1");
        refuse(b, 3, "add 2 1 1 1");
        refuse(b, 3, "lose 1 1");
    }

    private static void refusedByFour() {
        Bench.says("4 it is so already.");
        for (String call : new String[] {"lose 3 0", "lose 9 9", "lose 5 0", "light 2", "use 0",
            "slide 0 0"}) {
            refuse(rich(), 4, call);
        }
    }

    private static void refusedByFive() {
        Bench.says("5 there is none.");
        for (String call : new String[] {"plate 3 6", "plate 3 7", "differences 3 0", "root 7 3",
            "found 8 0", "coarse 2 0", "coarse 7 1", "out 5000"}) {
            refuse(rich(), 5, call);
        }
        String[] blind = {"at 0 0 4", "all 3", "found -1 0", "filled 0", "worst 0", "match 0",
            "minus 0 0", "coarse 3 0"};
        for (int k : new int[] {1, 3, 4}) {
            for (String call : blind) {
                Bench b = rich();
                b.gives(0, "use", k);
                refuse(b, 5, call);
            }
        }
        Bench b = rich();
        b.gives(0, "use", 4);
        refuse(b, 5, "all 2");
        refuse(Bench.of("plate a row 7;"), 5, "undo");
        refuse(Bench.of("plate a row 7;"), 5, "slide 1 1");
        refuse(Bench.of("plate a row 7;"), 5, "match 0");
        refuse(Bench.of("plate a row 7;"), 5, "minus 0 0");
        refuse(Bench.of("plate a row 7;"), 5, "shots 1 1 0");
        refuse(Bench.of("plate a row 7;"), 5, "out 0");
        refuse(Bench.of("plate a set 3;"), 5, "best 0");
        refuse(new Bench(), 5, "many 5");
        refuse(new Bench(), 5, "best 1");
        refuse(Bench.of("plate a row 3;lost 0 0;lost 1 0;lost 2 0;"), 5, "worst 0");
    }

    private static void refusedByNine() {
        Bench.says("9 a FAULT.");
        String[] texts = {"?", "plate", "plate z row 4;", "plate z neg y;",
            "plate s square 3;plate t both s s;", "lost 1 1;".repeat(13),
            "plate z row 5;plate y row 3;use y;source 9 9 9;lost 8 8;stray 7 7 7;back 66;;"};
        for (String text : texts) {
            Bench b = rich();
            // the tape is taken up to here, so that both are the same but for the FAULT
            b.load("?");
            List<List<Long>> before = b.stateButFault();
            Bench.same(b.load(text), -1, "load() of '" + text + "'");
            Bench.same(b.status(), 9, "STATUS of '" + text + "'");
            Bench.same(b.stateButFault(), before, "all but the FAULT behind '" + text + "'");
        }
    }

    private static void firstThatHolds() {
        Bench.says("STATUS of a call is the first of these that holds");
        Bench b = rich();
        // 1 ahead of 2
        for (String call : new String[] {"plate 9 9", "cell 9 9 9 9", "differences 9 9",
            "window 9 9 9 0 0", "thing 0 9 9", "thing 1 9 2", "drop 1 9", "at 9 9 9",
            "frames 0 0 9 9"}) {
            refuse(b, 1, call);
        }
        // 1 ahead of 2 without a PLATE
        for (String call : new String[] {"at 0 0 9", "all 9", "peak 9", "found -2 0",
            "frames 0 1 0 0", "filled 9", "coarse 1 0", "match 9", "shots 0 1 0", "worst 9"}) {
            refuse(new Bench(), 1, call);
        }
        // 1 ahead of 4 and 5
        refuse(new Bench(), 1, "slide 100 0");
        refuse(new Bench(), 1, "best 9");
        refuse(new Bench(), 1, "out -1");
        refuse(b, 1, "differences 3 9");
        refuse(b, 1, "plate 3 9");
        refuse(b, 1, "root 8 3");
        refuse(b, 1, "coarse 2 -1");
        // 2 ahead of 5
        refuse(Bench.of("plate a set 4;"), 2, "at 4 0 4");
        refuse(Bench.of("plate a set 4;"), 2, "minus 4 0");
        refuse(new Bench(), 2, "minus 0 0");
        refuse(new Bench(), 2, "match 0");
        refuse(new Bench(), 2, "shots 1 1 0");
        refuse(new Bench(), 2, "coarse 2 9");
        refuse(new Bench(), 2, "found 9 0");
        // 2 ahead of 4
        refuse(new Bench(), 2, "use 0");
        // 4 ahead of 5
        refuse(new Bench(), 4, "slide 0 0");
        // 3 ahead of 4
        refuse(Bench.of("lost 1 1;".repeat(12)), 3, "lose 1 1");
        refuse(Bench.of("lost 1 1;".repeat(11)), 4, "lose 1 1");
        // 1 ahead of 9: nothing is read
        b = rich();
        b.call("load", 40);
        b.feed("?");
        refuse(b, 1, "load 21");
        b.refuses(9, "load", 20);
    }

    private static void belowZero() {
        Bench.says("(below 0, too, of one that counts)");
        for (int n : new int[] {-1, -2, -1000, Integer.MIN_VALUE}) {
            Bench b = rich();
            b.refuses(1, "load", n);
            b.refuses(1, "coarse", 7, n);
            b.refuses(1, "coarse", n, 0);
            b.refuses(1, "frames", n, 1, 0, 0);
            b.refuses(1, "frames", 1, n, 0, 0);
            b.refuses(1, "shots", n, 1, 0);
            b.refuses(1, "shots", 1, n, 0);
            b.refuses(1, "out", n);
            b.refuses(1, "window", 0, 0, 0, n, 1);
            b.refuses(1, "window", 0, 0, 0, 1, n);
            if (n < -1) {
                b.refuses(1, "found", n, 0);
            }
        }
    }

    private static void noneOrBelowZero() {
        Bench.says("With another STATUS than 0 a call gives NONE (where a number below 0 may be, "
            + "STATUS tells them apart)");
        Bench.of("plate a row 7;").gives(-1, "plate", 0, 3);
        Bench.of("plate a row 7;").gives(-1, "cell", 0, 0, 0, 1);
        Bench.of("plate a row 7;").gives(-1, "cell", 0, 1, 0, 2);
        Bench.of("plate a row 7;back 1;").gives(-1, "at", 0, 0, 2);
        Bench.of("plate a bits #10;stray 0 0 1;lost 0 0;").gives(-1, "at", 1, 0, 3);
        Bench.of("plate a bits #10;lost 0 0;back 1;").gives(-1, "at", 0, 0, 4);
        Bench.of("plate a row 7;back 1;").gives(-1, "peak", 2);
        Bench.of("plate a row 7;back 1;").gives(-1, "frames", 1, 1, 0, 0);
        Bench.of("plate a bits #100;source 0 0 1;").gives(-1, "anti", 1, 0);
        Bench b = Bench.of("plate a bits #10;");
        b.gives(2, "keep");
        b.gives(0, "add", 2, 0, 0, 1);
        b.gives(-1, "minus", 1, 0);
        Bench.of("plate a bits #0;back 1;").gives(-1, "shots", 1, 1, 3);
    }
}
