import java.util.ArrayList;
import java.util.List;
import java.util.Random;

/** Runs of calls, drawn from fixed seeds, on MaskBench and on the plain Model side by side. */
public final class ModelTest {
    private static final String[] SCENE_CALLS = {"thing", "add", "add", "add", "drop", "lose",
        "lose", "heal", "light", "use", "use", "slide", "undo", "undo"};
    private static final String[] SHADOW_CALLS = {"at", "at", "at", "all", "all", "peak", "found",
        "found", "frames", "filled", "coarse", "anti", "keep", "match", "minus", "shots", "best",
        "worst"};
    private static final String[] PLATE_CALLS = {"plate", "cell", "differences", "window",
        "alike", "root"};
    private static final String[] NAMES = {"a", "bc", "def", "zz", "plates", "q", "rows", "usee"};
    private static final int[] PRIMES = {3, 5, 7, 11, 13, 17, 19, 23, 29, 31, 37, 41, 43, 47};
    private static final String[] FLAT = {"set 7 1 2 4", "set 7 0 3 5 6", "set 13 0 1 3 9",
        "set 21 3 6 7 12 14", "set 11 2 4 5 6 8 10 1 7 9 3", "set 15 0 1 2 4 5 8 10",
        "bits #1000", "bits #10", "bits #1110", "bits #1", "bits #0", "bits #111", "bits #01",
        "set 40 0", "set 47 0", "set 4", "bits #0111111111111"};

    /** Each has a status() behind it, and an object is used for at most 512 calls. */
    private static final int MOST_CALLS = 250;

    private final Random random;
    private final Bench bench = new Bench();
    private final Model model = new Model();
    private final StringBuilder history = new StringBuilder();
    private final int run;
    private int calls = 0;

    private ModelTest(int run) {
        this.run = run;
        random = new Random(run);
    }

    public static void main(String[] args) {
        int runs = args.length > 0 ? Integer.parseInt(args[0]) : 800;
        long widest = 0;
        for (int run = 1; run <= runs && Bench.wrong == 0; run++) {
            ModelTest test = new ModelTest(run);
            test.go();
            widest = Math.max(widest, test.model.widest);
        }
        System.out.println("the widest number was " + widest);
        Bench.end();
    }

    private void go() {
        boolean large = run % 20 == 0;
        int rounds = large ? 1 : 3;
        for (int i = 0; i < rounds && calls < MOST_CALLS / 2; i++) {
            load(random.nextInt(6) == 0 ? spoil(text(large)) : text(large));
            int n = large ? 20 : 60;
            for (int c = 0; c < n && calls < MOST_CALLS - 20; c++) {
                step();
            }
            both("print");
            for (int b = 0; b < 10; b++) {
                both("out", random.nextInt(200) - 2);
            }
            Bench.same(bench.printed(), model.printed, "run " + run + " print");
            both("undo");
        }
        if (Bench.wrong != 0) {
            System.out.println("run " + run + ":\n" + history);
        }
    }

    private void load(String text) {
        history.append("text: ").append(text.replace('\n', '~')).append('\n');
        for (int[] five : Bench.feeds(text)) {
            both("feed", five);
        }
        int n = text.length();
        if (random.nextInt(15) == 0) {
            n += random.nextInt(45) - 20;
        }
        both("load", n);
        both("fault", 0);
        both("fault", 1);
    }

    private void both(String name, int... args) {
        calls++;
        long want = model.call(name, args);
        long got = bench.call(name, args);
        String call = name + java.util.Arrays.toString(args);
        history.append(call).append(" => ").append(want).append('\n');
        if (want != got || model.status != bench.status()) {
            Bench.fail("run " + run + ": " + call + " answered " + got + " ("
                + bench.status() + "), due is " + want + " (" + model.status + ")");
        }
    }

    private int in(int least, int most) {
        return least + random.nextInt(most - least + 1);
    }

    /** A number for a call: mostly one that fits, else one around the edges, else any. */
    private int near(int least, int most) {
        switch (random.nextInt(40)) {
            case 0: return least - 1;
            case 1: return most + 1;
            case 2: return least;
            case 3: return most;
            case 4: return random.nextInt(20) == 0 ? random.nextInt() : least;
            default: return most < least ? least : in(least, most);
        }
    }

    private void step() {
        int group = random.nextInt(10);
        if (group == 0) {
            both("many", near(0, 6));
        } else if (group <= 2) {
            plateCall(PLATE_CALLS[random.nextInt(PLATE_CALLS.length)]);
        } else if (group <= 5) {
            sceneCall(SCENE_CALLS[random.nextInt(SCENE_CALLS.length)]);
        } else {
            shadowCall(SHADOW_CALLS[random.nextInt(SHADOW_CALLS.length)]);
        }
    }

    private int wide(int k) {
        return k >= 0 && k < model.plates.size() ? model.plates.get(k).wide : 1;
    }

    private int high(int k) {
        return k >= 0 && k < model.plates.size() ? model.plates.get(k).high : 1;
    }

    private void plateCall(String name) {
        int k = near(0, model.plates.size() - 1);
        int x = near(0, wide(k) - 1);
        int y = near(0, high(k) - 1);
        switch (name) {
            case "plate": both(name, k, near(0, 7)); break;
            case "cell": both(name, k, x, y, near(0, 2)); break;
            case "differences": both(name, k, near(0, 2)); break;
            case "window": both(name, k, x, y, near(1, 99), near(1, 99)); break;
            case "alike": both(name, k, near(0, model.plates.size() - 1)); break;
            default: {
                int p = random.nextInt(4) == 0 ? in(-3, 60) : PRIMES[random.nextInt(14)];
                both(name, p, near(1, Math.max(p - 1, 1)));
            }
        }
    }

    private int place() {
        return random.nextInt(3) == 0 ? near(0, 99) : in(0, 8);
    }

    private void sceneCall(String name) {
        int kind = random.nextInt(12) == 0 ? in(-1, 3) : 2 * in(0, 1);
        switch (name) {
            case "thing": {
                int of = random.nextInt(3);
                both(name, near(of, of), near(0, 5), near(0, 2));
                break;
            }
            case "add": both(name, kind, place(), place(), near(1, 999)); break;
            case "drop": both(name, kind, near(0, 3)); break;
            case "lose": both(name, place(), place()); break;
            case "heal": both(name, near(0, 3)); break;
            case "light": both(name, random.nextBoolean() ? in(0, 5) : near(0, 99)); break;
            case "use": both(name, near(0, model.plates.size() - 1)); break;
            case "slide": both(name, place(), random.nextBoolean() ? 0 : place()); break;
            default: both(name);
        }
    }

    private void shadowCall(String name) {
        int used = model.plates.isEmpty() ? -1 : model.scene.used;
        int x = near(0, wide(used) - 1);
        int y = near(0, high(used) - 1);
        boolean large = wide(used) * high(used) > 60;
        switch (name) {
            case "at": both(name, x, y, near(0, 5)); break;
            case "all": both(name, near(0, 7)); break;
            case "peak": both(name, near(0, 3)); break;
            case "found": both(name, random.nextInt(4) == 0 ? -1 : near(0, 4), near(0, 2)); break;
            case "frames": both(name, near(1, 20), near(1, 99), x, y); break;
            case "filled": both(name, near(0, 1)); break;
            case "coarse": both(name, divisor(wide(used)), near(0, wide(used) / 2)); break;
            case "anti": both(name, x, y); break;
            case "match": both(name, near(0, 2)); break;
            case "minus": both(name, x, y); break;
            case "shots": both(name, near(1, 500), near(1, 65536), near(0, 3)); break;
            case "best": both(name, near(0, 1)); break;
            case "worst":
                if (!large || random.nextInt(8) == 0) {
                    both(name, near(0, 2));
                }
                break;
            default: both(name);
        }
    }

    private int divisor(int wide) {
        List<Integer> all = new ArrayList<>();
        for (int m = 2; m <= wide; m++) {
            if (wide % m == 0) {
                all.add(m);
            }
        }
        return all.isEmpty() || random.nextInt(5) == 0 ? near(2, 9)
            : all.get(random.nextInt(all.size()));
    }

    // ---- texts

    private String blank() {
        switch (random.nextInt(12)) {
            case 0: return "\n";
            case 1: return "  ";
            default: return " ";
        }
    }

    private String text(boolean large) {
        StringBuilder s = new StringBuilder();
        List<String> names = new ArrayList<>();
        List<Integer> wides = new ArrayList<>();
        int n = random.nextInt(10) == 0 ? in(0, 7) : in(1, 6);
        for (int i = 0; i < n; i++) {
            s.append("plate").append(blank());
            String name = NAMES[i];
            s.append(name).append(blank()).append(form(names, wides, large)).append(';');
            names.add(name);
        }
        marks(s, "source", in(0, 4), true);
        marks(s, "lost", random.nextInt(3) == 0 ? in(0, 12) : in(0, 2), false);
        marks(s, "stray", random.nextInt(2) == 0 ? 0 : in(0, 4), true);
        if (random.nextInt(3) > 0) {
            s.append("back").append(random.nextBoolean() ? "" : " ")
                .append(random.nextBoolean() ? in(0, 3) : in(0, 99)).append(" ; ");
        }
        if (n > 0 && random.nextInt(3) > 0) {
            s.append("use ").append(names.get(random.nextInt(n))).append(";\n");
        }
        return s.length() > 800 ? s.substring(0, 800) : s.toString();
    }

    private void marks(StringBuilder s, String word, int n, boolean counts) {
        for (int i = 0; i < n; i++) {
            s.append(word).append(random.nextInt(5) == 0 ? "" : blank());
            s.append(random.nextInt(3) == 0 ? in(0, 99) : in(0, 9)).append(blank());
            s.append(random.nextInt(3) == 0 ? in(0, 99) : in(0, 4));
            if (counts) {
                s.append(blank()).append(random.nextBoolean() ? in(1, 999) : in(1, 12));
            }
            s.append(';');
        }
    }

    private String bits() {
        StringBuilder s = new StringBuilder("#");
        int n = random.nextInt(8) == 0 ? in(1, 40) : in(1, 8);
        for (int i = 0; i < n; i++) {
            s.append(random.nextInt(2));
        }
        return s.toString();
    }

    private String set() {
        int wide = random.nextInt(4) == 0 ? in(1, 47) : in(1, 9);
        List<Integer> places = new ArrayList<>();
        for (int x = 0; x < wide; x++) {
            if (random.nextInt(3) == 0) {
                places.add(random.nextInt(places.size() + 1), x);
            }
        }
        StringBuilder s = new StringBuilder("set").append(blank()).append(wide);
        for (int x : places) {
            s.append(blank()).append(x);
        }
        return s.toString();
    }

    private String form(List<String> names, List<Integer> wides, boolean large) {
        int pick = random.nextInt(names.isEmpty() ? 5 : 9);
        String any = names.isEmpty() ? "" : names.get(random.nextInt(names.size()));
        switch (pick) {
            case 0: return "row " + PRIMES[random.nextInt(random.nextInt(3) == 0 ? 14 : 5)];
            case 1: return "bits" + (random.nextBoolean() ? "" : " ") + bits();
            case 2: return set();
            case 3: return "square " + PRIMES[large ? in(3, 5) : in(0, 1)];
            case 4: return FLAT[random.nextInt(FLAT.length)];
            case 5: return "turn " + any + blank() + in(0, 99) + " " + in(0, 99);
            case 6: return "neg " + any;
            default: return "both " + any + " " + names.get(random.nextInt(names.size()));
        }
    }

    /** A text with something wrong in it, most of the time. */
    private String spoil(String text) {
        String[] bits = {"x", ";", "7", "12345", "abcdefg", "#", "#2", "use", "row", "plate ", "\t",
            " 0 ", "100", "\u00e9", "-1", "A", "0", "00007", "a ", "#" + "10".repeat(21), "9 "};
        int n = in(1, 2);
        String s = text;
        for (int i = 0; i < n; i++) {
            int place = random.nextInt(s.length() + 1);
            int until = Math.min(s.length(), place + random.nextInt(4));
            String put = random.nextInt(3) == 0 ? "" : bits[random.nextInt(bits.length)];
            s = s.substring(0, place) + put + s.substring(until);
        }
        return s.length() > 800 ? s.substring(0, 800) : s;
    }
}
