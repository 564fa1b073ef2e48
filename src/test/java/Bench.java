import java.lang.reflect.Method;
import java.util.HashMap;
import java.util.Map;

/** A MaskBench for tests: calls by name, texts fed whole, wrong answers counted. */
final class Bench {
    private static final Map<String, Method> METHODS = new HashMap<>();
    static int wrong = 0;
    final MaskBench bench = new MaskBench();

    static {
        for (Method m : MaskBench.class.getDeclaredMethods()) {
            METHODS.put(m.getName(), m);
        }
    }

    long call(String name, int... args) {
        Object[] boxed = new Object[args.length];
        for (int i = 0; i < args.length; i++) {
            boxed[i] = args[i];
        }
        try {
            return ((Number) METHODS.get(name).invoke(bench, boxed)).longValue();
        } catch (ReflectiveOperationException e) {
            throw new IllegalStateException(name + java.util.Arrays.toString(args), e);
        }
    }

    /** The ints by which feed() puts a text on the tape, five a call. */
    static int[][] feeds(String text) {
        int[][] all = new int[(text.length() + 19) / 20][5];
        for (int i = 0; i < text.length(); i++) {
            all[i / 20][i % 20 / 4] |= (text.charAt(i) & 255) << (24 - i % 4 * 8);
        }
        return all;
    }

    /** Feeds a text and loads it. */
    int load(String text) {
        for (int[] five : feeds(text)) {
            bench.feed(five[0], five[1], five[2], five[3], five[4]);
        }
        return bench.load(text.length());
    }

    String printed() {
        int n = bench.print();
        StringBuilder s = new StringBuilder();
        for (int i = 0; i < n; i++) {
            s.append((char) bench.out(i));
        }
        return s.toString();
    }

    /** A call that is answered, with STATUS 0. */
    void gives(long want, String name, int... args) {
        check(name, args, call(name, args), want, 0);
    }

    /** A call that is refused. */
    void refuses(int status, String name, int... args) {
        check(name, args, call(name, args), MaskBench.NONE, status);
    }

    private void check(String name, int[] args, long got, long want, int status) {
        if (got != want || bench.status() != status) {
            String call = name + java.util.Arrays.toString(args);
            fail(call + " answered " + got + " with STATUS " + bench.status() + ", due is " + want
                + " with " + status);
        }
    }

    /** A text with a FAULT. */
    static void faults(int kind, int place, String text) {
        Bench b = new Bench();
        int got = b.load(text);
        if (got != MaskBench.NONE || b.bench.status() != 9 || b.bench.fault(0) != kind
            || b.bench.fault(1) != place) {
            fail("'" + text + "' has FAULT " + b.bench.fault(0) + " at " + b.bench.fault(1)
                + ", due is " + kind + " at " + place);
        }
    }

    static Bench of(String text) {
        Bench b = new Bench();
        if (b.load(text) == MaskBench.NONE) {
            fail("'" + text + "' has FAULT " + b.bench.fault(0) + " at " + b.bench.fault(1));
        }
        return b;
    }

    static void same(Object got, Object want, String what) {
        if (!want.equals(got)) {
            fail(what + ": " + got + ", due is " + want);
        }
    }

    static void fail(String what) {
        wrong++;
        if (wrong <= 40) {
            System.out.println(what);
        }
    }

    static void end() {
        System.out.println(wrong == 0 ? "all answers are as due" : wrong + " are not as due");
        if (wrong != 0) {
            System.exit(1);
        }
    }
}
