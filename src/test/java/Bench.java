import java.io.IOException;
import java.lang.reflect.Method;
import java.nio.file.Files;
import java.nio.file.Path;
import java.util.ArrayList;
import java.util.Arrays;
import java.util.HashMap;
import java.util.List;
import java.util.Map;

/**
 * A MaskBench for tests: calls by name, texts fed whole, wrong answers counted.
 *
 * Every call is written down, so that twins can be made: new objects behind the same calls. What
 * is looked at by a twin costs the object itself none of its 512 calls.
 */
final class Bench {
    private static final int MOST_CALLS = 512;
    private static final int SLICE = 100;
    private static final String DOC = readDoc();
    private static final Map<String, Method> METHODS = new HashMap<>();
    static int wrong = 0;
    private static int sentences = 0;
    private static String sentence = "";

    final MaskBench object = new MaskBench();
    private final List<Call> log = new ArrayList<>();
    private int calls = 0;
    private int latest = 0;

    /** A call that has been made; refused: it should have changed nothing but STATUS. */
    private record Call(String name, int[] args, boolean refused) {
    }

    static {
        for (Method m : MaskBench.class.getDeclaredMethods()) {
            METHODS.put(m.getName(), m);
        }
    }

    /** The document with single blanks; empty where it is not at hand, and then not looked at. */
    static String readDoc() {
        Path path = Path.of("../shared/DOC.md");
        try {
            return Files.exists(path) ? Files.readString(path).replaceAll("\\s+", " ") : "";
        } catch (IOException e) {
            return "";
        }
    }

    /** The words of the document that the checks behind this call are for. */
    static void says(String words) {
        sentence = words;
        sentences++;
        if (!DOC.isEmpty() && !DOC.contains(words)) {
            fail("the document does not say so");
        }
    }

    long call(String name, int... args) {
        long got = invoke(name, args);
        latest = (int) invoke("status");
        log.add(new Call(name, args.clone(), isRefused(name, got)));
        return got;
    }

    private boolean isRefused(String name, long got) {
        if (hasNoStatus(name)) {
            return name.equals("feed") && got == MaskBench.NONE;
        }
        return latest != 0 && latest != 9;
    }

    private static boolean hasNoStatus(String name) {
        return name.equals("status") || name.equals("feed") || name.equals("fault");
    }

    private long invoke(String name, int... args) {
        calls++;
        if (calls == MOST_CALLS + 1) {
            fail("a test makes more than " + MOST_CALLS + " calls of one object");
        }
        Object[] boxed = new Object[args.length];
        for (int i = 0; i < args.length; i++) {
            boxed[i] = args[i];
        }
        try {
            return ((Number) METHODS.get(name).invoke(object, boxed)).longValue();
        } catch (ReflectiveOperationException e) {
            throw new IllegalStateException(name + Arrays.toString(args), e);
        }
    }

    /** STATUS behind the latest call. */
    int status() {
        return latest;
    }

    /** The ints by which feed() puts a text on the tape, five a call, with blanks behind it. */
    static int[][] feeds(String text) {
        int[][] all = new int[(text.length() + 19) / 20][5];
        for (int i = 0; i < all.length * 20; i++) {
            int b = i < text.length() ? text.charAt(i) & 255 : ' ';
            all[i / 20][i % 20 / 4] |= b << (24 - i % 4 * 8);
        }
        return all;
    }

    void feed(String text) {
        for (int[] five : feeds(text)) {
            call("feed", five);
        }
    }

    /** Feeds a text and loads it. */
    int load(String text) {
        feed(text);
        return (int) call("load", text.length());
    }

    // ---- twins

    private Bench twin(boolean withRefused) {
        Bench t = new Bench();
        for (Call c : log) {
            if (withRefused || !c.refused) {
                t.invoke(c.name, c.args);
            }
        }
        return t;
    }

    /** The text that print() would give; this object's OUT stays as it is. */
    String printed() {
        return text(outOf(true, true));
    }

    /** This object's OUT, as it is. */
    String out() {
        return text(outOf(true, false));
    }

    private static String text(List<Long> bytes) {
        StringBuilder s = new StringBuilder();
        for (long b : bytes) {
            s.append((char) b);
        }
        return s.toString();
    }

    private List<Long> outOf(boolean withRefused, boolean printFirst) {
        List<Long> all = new ArrayList<>();
        boolean more = true;
        for (int from = 0; more; from += SLICE) {
            Bench t = twin(withRefused);
            if (printFirst) {
                t.invoke("print");
            }
            for (int i = from; i < from + SLICE && more; i++) {
                long b = t.invoke("out", i);
                more = b != MaskBench.NONE;
                if (more) {
                    all.add(b);
                }
            }
        }
        return all;
    }

    /** What can be told of an object, part by part, each part by a twin of its own. */
    private List<List<Long>> view(boolean withRefused) {
        List<List<Long>> parts = new ArrayList<>();
        parts.add(twin(withRefused).tellFault());
        parts.add(outOf(withRefused, false));
        parts.add(outOf(withRefused, true));
        Bench t = twin(withRefused);
        parts.add(t.tellScene());
        long acts = t.invoke("many", 6);
        parts.add(twin(withRefused).tellSeen());
        parts.add(twin(withRefused).tellTape());
        for (int undone = 1; undone <= acts; undone++) {
            t = twin(withRefused);
            for (int i = 0; i < undone; i++) {
                t.invoke("undo");
            }
            parts.add(t.tellScene());
        }
        return parts;
    }

    /** The same, but for what fault() tells. */
    List<List<Long>> stateButFault() {
        List<List<Long>> parts = view(true);
        return parts.subList(1, parts.size());
    }

    private List<Long> tellScene() {
        List<Long> all = new ArrayList<>();
        for (int what = 0; what <= 6; what++) {
            all.add(invoke("many", what));
        }
        for (int kind = 0; kind <= 2; kind++) {
            for (int k = 0; k < all.get(kind + 1); k++) {
                for (int what = 0; what <= (kind == 1 ? 1 : 2); what++) {
                    all.add(invoke("thing", kind, k, what));
                }
            }
        }
        return all;
    }

    private List<Long> tellSeen() {
        List<Long> all = new ArrayList<>();
        for (int what = 0; what <= 7; what++) {
            all.add(invoke("all", what));
        }
        for (int x = 0; x < 9; x++) {
            all.add(invoke("at", x, 0, 0));
            all.add(invoke("at", x, 0, 2));
            all.add(invoke("minus", x, 0));
        }
        for (int what = 0; what <= 2; what++) {
            all.add(invoke("match", what));
        }
        all.add(invoke("found", -1, 0));
        all.add(invoke("best", 1));
        return all;
    }

    private List<Long> tellFault() {
        return List.of(invoke("fault", 0), invoke("fault", 1));
    }

    /** How many bytes the tape has, and what load() makes of them. */
    private List<Long> tellTape() {
        List<Long> all = new ArrayList<>();
        long length = 800;
        while (invoke("feed", 0x20202020, 0x20202020, 0x20202020, 0x20202020, 0x20202020) != -1) {
            length -= 20;
        }
        all.add(length);
        all.add(invoke("load", (int) length));
        all.add(invoke("fault", 0));
        all.add(invoke("fault", 1));
        all.addAll(tellScene());
        return all;
    }

    // ---- checks

    /** A call that is answered, with STATUS 0. */
    void gives(long want, String name, int... args) {
        long got = call(name, args);
        checkAnswer(name, args, got, want, 0);
    }

    /** A call without a STATUS: that of the call ahead of it stays. */
    void tells(long want, String name, int... args) {
        int before = status();
        long got = call(name, args);
        checkAnswer(name, args, got, want, before);
    }

    /** A call that is refused, and changes nothing else. */
    void refuses(int status, String name, int... args) {
        long got = call(name, args);
        checkAnswer(name, args, got, MaskBench.NONE, status);
        checkUnchanged(name + Arrays.toString(args));
    }

    private void checkAnswer(String name, int[] args, long got, long want, int status) {
        int now = status();
        if (got != want || now != status) {
            fail(name + Arrays.toString(args) + " answered " + got + " with STATUS " + now
                + ", due is " + want + " with " + status);
        }
    }

    /** All is as if the calls that were refused had not been made. */
    void checkUnchanged(String call) {
        if (!view(true).equals(view(false))) {
            fail(call + " changed more than STATUS");
        }
    }

    /** A text with a FAULT. */
    static void faults(int kind, int place, String text) {
        Bench b = new Bench();
        int got = b.load(text);
        long gotKind = b.call("fault", 0);
        long gotPlace = b.call("fault", 1);
        if (got != MaskBench.NONE || b.status() != 9 || gotKind != kind || gotPlace != place) {
            fail("'" + text + "' has FAULT " + gotKind + " at " + gotPlace + ", due is " + kind
                + " at " + place);
        }
    }

    /** An object with a text that has no FAULT. */
    static Bench of(String text) {
        Bench b = new Bench();
        if (b.load(text) == MaskBench.NONE) {
            fail("'" + text + "' has FAULT " + b.call("fault", 0) + " at " + b.call("fault", 1));
        }
        return b;
    }

    static void same(Object got, Object want, String what) {
        if (!want.equals(got)) {
            fail(what + ": " + got + ", due is " + want);
        }
    }

    static void fail(String what) {
        wrong++;
        if (wrong <= 40) {
            System.out.println((sentence.isEmpty() ? "" : "[" + sentence + "] ") + what);
        }
    }

    static void end() {
        if (sentences > 0) {
            System.out.println(sentences + " sentences of the document");
        }
        System.out.println(wrong == 0 ? "all answers are as due" : wrong + " are not as due");
        if (wrong != 0) {
            System.exit(1);
        }
    }
}
