import java.util.ArrayList;
import java.util.HashMap;
import java.util.List;
import java.util.Map;
import java.util.TreeSet;

/**
 * The document once more, word by word and as dear as it comes: everything is made anew from its
 * definition at each call. Tests hold MaskBench against it.
 */
final class Model {
    static final int NONE = -1;
    static final List<String> RESERVED = List.of("plate", "row", "bits", "set", "turn", "neg",
        "both", "square", "source", "lost", "stray", "back", "use");

    static final class Refused extends RuntimeException {
        private static final long serialVersionUID = 1L;
        final int status;

        Refused(int status) {
            super(null, null, false, false);
            this.status = status;
        }
    }

    static final class Fault extends RuntimeException {
        private static final long serialVersionUID = 1L;
        final int kind;
        final int place;

        Fault(int kind, int place) {
            super(null, null, false, false);
            this.kind = kind;
            this.place = place;
        }
    }

    static final class Plate {
        String name;
        String told;
        int wide;
        int high;
        boolean[][] hole;
        int[][] weight;

        Plate(int wide, int high) {
            this.wide = wide;
            this.high = high;
            hole = new boolean[wide][high];
            weight = new int[wide][high];
        }

        boolean hole(int x, int y) {
            return hole[Math.floorMod(x, wide)][Math.floorMod(y, high)];
        }

        int weight(int x, int y) {
            return weight[Math.floorMod(x, wide)][Math.floorMod(y, high)];
        }

        boolean has(int x, int y) {
            return x >= 0 && x < wide && y >= 0 && y < high;
        }

        int cells() {
            return wide * high;
        }

        int holes() {
            int n = 0;
            for (int x = 0; x < wide; x++) {
                for (int y = 0; y < high; y++) {
                    n += hole(x, y) ? 1 : 0;
                }
            }
            return n;
        }

        int weights() {
            int n = 0;
            for (int x = 0; x < wide; x++) {
                for (int y = 0; y < high; y++) {
                    n += weight(x, y);
                }
            }
            return n;
        }

        int side(int s, int t) {
            int n = 0;
            for (int x = 0; x < wide; x++) {
                for (int y = 0; y < high; y++) {
                    n += hole(x, y) ? weight(x + s, y + t) : 0;
                }
            }
            return n;
        }

        int difference(int s, int t) {
            int n = 0;
            for (int x = 0; x < wide; x++) {
                for (int y = 0; y < high; y++) {
                    n += hole(x, y) && hole(x + s, y + t) ? 1 : 0;
                }
            }
            return n;
        }

        /** All but that at 0, 0. */
        List<Integer> sides() {
            List<Integer> all = new ArrayList<>();
            for (int t = 0; t < high; t++) {
                for (int s = 0; s < wide; s++) {
                    if (s != 0 || t != 0) {
                        all.add(side(s, t));
                    }
                }
            }
            return all;
        }

        boolean flat() {
            return new TreeSet<>(sides()).size() <= 1;
        }

        boolean canRestore() {
            return cells() >= 2 && holes() > 0 && flat() && side(0, 0) != sides().get(0);
        }

        Plate turned(int a, int b) {
            Plate p = new Plate(wide, high);
            for (int x = 0; x < wide; x++) {
                for (int y = 0; y < high; y++) {
                    p.hole[x][y] = hole(x - a, y - b);
                    p.weight[x][y] = weight(x - a, y - b);
                }
            }
            return p;
        }

        Plate negative() {
            Plate p = new Plate(wide, high);
            for (int x = 0; x < wide; x++) {
                for (int y = 0; y < high; y++) {
                    p.hole[x][y] = !hole(x, y);
                    p.weight[x][y] = -weight(x, y);
                }
            }
            return p;
        }
    }

    static final class Scene {
        List<int[]> sources = new ArrayList<>();
        List<int[]> lost = new ArrayList<>();
        List<int[]> strays = new ArrayList<>();
        int back = 0;
        int used = 0;

        Scene copy() {
            Scene s = new Scene();
            for (int[] a : sources) {
                s.sources.add(a.clone());
            }
            for (int[] a : lost) {
                s.lost.add(a.clone());
            }
            for (int[] a : strays) {
                s.strays.add(a.clone());
            }
            s.back = back;
            s.used = used;
            return s;
        }

        boolean isLost(Plate p, int x, int y) {
            for (int[] l : lost) {
                if (Math.floorMod(l[0] - x, p.wide) == 0 && Math.floorMod(l[1] - y, p.high) == 0) {
                    return true;
                }
            }
            return false;
        }

        long whole(Plate p, int x, int y) {
            long n = back;
            for (int[] s : sources) {
                n += p.hole(x - s[0], y - s[1]) ? s[2] : 0;
            }
            for (int[] s : strays) {
                boolean there = s[0] % p.wide == x && s[1] % p.high == y;
                n += there ? s[2] : 0;
            }
            return n;
        }

        long truth(Plate p, int x, int y) {
            long n = 0;
            for (int[] s : sources) {
                n += s[0] % p.wide == x && s[1] % p.high == y ? s[2] : 0;
            }
            return n;
        }

        long[][] wholes(Plate p) {
            long[][] row = new long[p.wide][p.high];
            for (int x = 0; x < p.wide; x++) {
                for (int y = 0; y < p.high; y++) {
                    row[x][y] = whole(p, x, y);
                }
            }
            return row;
        }

        long[][] shadows(Plate p) {
            long[][] row = wholes(p);
            for (int x = 0; x < p.wide; x++) {
                for (int y = 0; y < p.high; y++) {
                    row[x][y] = isLost(p, x, y) ? 0 : row[x][y];
                }
            }
            return row;
        }
    }

    int status = 0;
    byte[] tape = new byte[0];
    List<Plate> plates = new ArrayList<>();
    Scene scene = new Scene();
    List<Scene> acts = new ArrayList<>();
    long[][] picture = null;
    String printed = null;
    int faultKind = NONE;
    int faultPlace = NONE;
    /** The greatest number that was met, without sign: does an int hold it? */
    long widest = 0;

    // ---- the text

    private static final class Token {
        char kind;
        String text;
        int place;

        Token(char kind, String text, int place) {
            this.kind = kind;
            this.text = text;
            this.place = place;
        }
    }

    private List<Token> tokens;
    private int next;

    private static List<Token> split(String text) {
        List<Token> all = new ArrayList<>();
        java.util.regex.Matcher m =
            java.util.regex.Pattern.compile("[ \\n]+|[a-z]+|[0-9]+|#[01]*|(?s).").matcher(text);
        while (m.find()) {
            String s = m.group();
            char kind = '?';
            if (s.charAt(0) == ' ' || s.charAt(0) == '\n') {
                continue;
            } else if (s.matches("[a-z]{1,6}")) {
                kind = 'w';
            } else if (s.matches("[0-9]{1,4}")) {
                kind = 'n';
            } else if (s.matches("#[01]{1,40}")) {
                kind = 'b';
            } else if (s.equals(";")) {
                kind = ';';
            }
            all.add(new Token(kind, s, m.start()));
        }
        all.add(new Token('$', "", text.length()));
        return all;
    }

    private Token need(char kind) {
        Token t = tokens.get(next);
        if (t.kind == '?') {
            throw new Fault(1, t.place);
        }
        if (t.kind != kind) {
            throw new Fault(2, t.place);
        }
        next++;
        return t;
    }

    private int number(int least, int most) {
        Token t = need('n');
        int n = Integer.parseInt(t.text);
        if (n < least || n > most) {
            throw new Fault(3, t.place);
        }
        return n;
    }

    private int prime(int most) {
        Token t = need('n');
        int n = Integer.parseInt(t.text);
        if (!isPrime(n) || n > most) {
            throw new Fault(3, t.place);
        }
        return n;
    }

    static boolean isPrime(int n) {
        return List.of(3, 5, 7, 11, 13, 17, 19, 23, 29, 31, 37, 41, 43, 47).contains(n);
    }

    private Token name() {
        Token t = need('w');
        if (RESERVED.contains(t.text)) {
            throw new Fault(2, t.place);
        }
        return t;
    }

    private static int index(List<Plate> all, String name) {
        for (int k = 0; k < all.size(); k++) {
            if (all.get(k).name.equals(name)) {
                return k;
            }
        }
        return NONE;
    }

    private Plate named(List<Plate> all) {
        Token t = name();
        int k = index(all, t.text);
        if (k == NONE) {
            throw new Fault(4, t.place);
        }
        return all.get(k);
    }

    private static boolean leftOfSquare(int p, int n) {
        for (int r = 1; r < p; r++) {
            if (r * r % p == n) {
                return true;
            }
        }
        return false;
    }

    private Plate form(List<Plate> all) {
        Token f = need('w');
        switch (f.text) {
            case "row": {
                int n = prime(47);
                Plate p = new Plate(n, 1);
                for (int x = 0; x < n; x++) {
                    p.hole[x][0] = x != 0 && leftOfSquare(n, x);
                    p.weight[x][0] = p.hole[x][0] || (x == 0 && n % 4 == 1) ? 1 : -1;
                }
                return p;
            }
            case "bits": {
                String s = need('b').text.substring(1);
                Plate p = new Plate(s.length(), 1);
                for (int x = 0; x < p.wide; x++) {
                    p.hole[x][0] = s.charAt(x) == '1';
                    p.weight[x][0] = p.hole[x][0] ? 1 : -1;
                }
                return p;
            }
            case "set": {
                Plate p = new Plate(number(1, 47), 1);
                while (tokens.get(next).kind == 'n') {
                    int place = tokens.get(next).place;
                    int x = number(0, p.wide - 1);
                    if (p.hole[x][0]) {
                        throw new Fault(3, place);
                    }
                    p.hole[x][0] = true;
                }
                for (int x = 0; x < p.wide; x++) {
                    p.weight[x][0] = p.hole[x][0] ? 1 : -1;
                }
                return p;
            }
            case "turn": {
                Plate a = named(all);
                int dx = number(0, 99);
                return a.turned(dx, number(0, 99));
            }
            case "neg":
                return named(all).negative();
            case "both":
                return both(all);
            case "square":
                return square(prime(17));
            default:
                throw new Fault(2, f.place);
        }
    }

    private Plate both(List<Plate> all) {
        int place = tokens.get(next).place;
        Plate a = named(all);
        if (a.high != 1) {
            throw new Fault(5, place);
        }
        place = tokens.get(next).place;
        Plate b = named(all);
        if (b.high != 1 || a.wide * b.wide > 289) {
            throw new Fault(5, place);
        }
        Plate p = new Plate(a.wide, b.wide);
        for (int x = 0; x < p.wide; x++) {
            for (int y = 0; y < p.high; y++) {
                p.hole[x][y] = (a.hole(x, 0) && b.hole(y, 0)) || (!a.hole(x, 0) && !b.hole(y, 0));
                p.weight[x][y] = a.weight(x, 0) * b.weight(y, 0);
            }
        }
        return p;
    }

    private static Plate square(int n) {
        Plate p = new Plate(n, n);
        for (int x = 0; x < n; x++) {
            for (int y = 0; y < n; y++) {
                boolean open;
                if (x == 0) {
                    open = false;
                } else if (y == 0) {
                    open = true;
                } else {
                    open = leftOfSquare(n, x) == leftOfSquare(n, y);
                }
                p.hole[x][y] = open;
                p.weight[x][y] = open || (x == 0 && y == 0) ? 1 : -1;
            }
        }
        return p;
    }

    private void oneMore(int have, int most, Token first) {
        if (have >= most) {
            throw new Fault(6, first.place);
        }
    }

    private void line(List<Plate> all, Scene s) {
        int begin = next;
        Token first = need('w');
        switch (first.text) {
            case "plate": {
                oneMore(all.size(), 6, first);
                Token n = name();
                if (index(all, n.text) != NONE) {
                    throw new Fault(4, n.place);
                }
                Plate p = form(all);
                need(';');
                p.name = n.text;
                StringBuilder told = new StringBuilder();
                for (int i = begin; i < next; i++) {
                    String t = tokens.get(i).text;
                    told.append(i == begin || t.equals(";") ? "" : " ").append(t);
                }
                p.told = told.toString();
                all.add(p);
                break;
            }
            case "source":
                oneMore(s.sources.size(), 8, first);
                s.sources.add(new int[] {number(0, 99), number(0, 99), number(1, 999)});
                need(';');
                break;
            case "lost":
                oneMore(s.lost.size(), 12, first);
                s.lost.add(new int[] {number(0, 99), number(0, 99)});
                need(';');
                break;
            case "stray":
                oneMore(s.strays.size(), 8, first);
                s.strays.add(new int[] {number(0, 99), number(0, 99), number(1, 999)});
                need(';');
                break;
            case "back":
                s.back = number(0, 99);
                need(';');
                break;
            case "use":
                s.used = all.indexOf(named(all));
                need(';');
                break;
            default:
                throw new Fault(2, first.place);
        }
    }

    int feed(int... five) {
        if (tape.length + 20 > 800) {
            return NONE;
        }
        byte[] longer = java.util.Arrays.copyOf(tape, tape.length + 20);
        java.nio.ByteBuffer b = java.nio.ByteBuffer.wrap(longer, tape.length, 20);
        for (int i : five) {
            b.putInt(i);
        }
        tape = longer;
        return tape.length;
    }

    private int loads(int n) {
        refuse(1, n < 0 || n > tape.length);
        String text = new String(tape, 0, n, java.nio.charset.StandardCharsets.ISO_8859_1);
        tape = new byte[0];
        List<Plate> all = new ArrayList<>();
        Scene s = new Scene();
        tokens = split(text);
        next = 0;
        try {
            while (tokens.get(next).kind != '$') {
                line(all, s);
            }
        } catch (Fault f) {
            faultKind = f.kind;
            faultPlace = f.place;
            throw new Refused(9);
        }
        faultKind = 0;
        faultPlace = NONE;
        plates = all;
        scene = s;
        acts.clear();
        picture = null;
        return plates.size();
    }

    int fault(int what) {
        return what == 0 ? faultKind : what == 1 ? faultPlace : NONE;
    }

    // ---- helpers

    private static void refuse(int status, boolean when) {
        if (when) {
            throw new Refused(status);
        }
    }

    private static boolean out(int n, int least, int most) {
        return n < least || n > most;
    }

    private Plate told(int k) {
        refuse(2, k < 0 || k >= plates.size());
        return plates.get(k);
    }

    private Plate used() {
        refuse(2, plates.isEmpty());
        return plates.get(scene.used);
    }

    private Plate used(int x, int y) {
        Plate p = used();
        refuse(2, !p.has(x, y));
        return p;
    }

    private long see(long n) {
        widest = Math.max(widest, Math.abs(n));
        return n;
    }

    private long decoded(Plate p, long[][] row, int x, int y) {
        long n = 0;
        for (int u = 0; u < p.wide; u++) {
            for (int v = 0; v < p.high; v++) {
                n += row[u][v] * p.weight(u - x, v - y);
                see(n);
            }
        }
        return n;
    }

    private long[][] decodeds(Plate p, long[][] row) {
        long[][] all = new long[p.wide][p.high];
        for (int x = 0; x < p.wide; x++) {
            for (int y = 0; y < p.high; y++) {
                all[x][y] = decoded(p, row, x, y);
            }
        }
        return all;
    }

    private static long sum(Plate p, long[][] row) {
        long n = 0;
        for (int x = 0; x < p.wide; x++) {
            for (int y = 0; y < p.high; y++) {
                n += row[x][y];
            }
        }
        return n;
    }

    private static int lostCells(Plate p, Scene s) {
        int n = 0;
        for (int x = 0; x < p.wide; x++) {
            for (int y = 0; y < p.high; y++) {
                n += s.isLost(p, x, y) ? 1 : 0;
            }
        }
        return n;
    }

    private static long light(Plate p, Scene s, long[][] row) {
        return sum(p, row) - (long) s.back * (p.cells() - lostCells(p, s));
    }

    private static long down(long a, long b) {
        return java.math.BigDecimal.valueOf(a)
            .divide(java.math.BigDecimal.valueOf(b), 0, java.math.RoundingMode.FLOOR)
            .longValueExact();
    }

    private long restored(Plate p, Scene s, long[][] row, long decoded, int other, int peak) {
        long sh = down(light(p, s, row), p.holes());
        return see(down(decoded - other * sh - (long) s.back * p.weights(), peak - other));
    }

    private long error(Plate p, Scene s, long[][] row) {
        int other = p.sides().get(0);
        int peak = p.side(0, 0);
        long sh = down(light(p, s, row), p.holes());
        long weights = p.weights();
        long n = 0;
        for (int x = 0; x < p.wide; x++) {
            for (int y = 0; y < p.high; y++) {
                long d = decoded(p, row, x, y);
                long r = down(d - other * sh - s.back * weights, peak - other);
                n += Math.abs(r - s.truth(p, x, y));
            }
        }
        return see(n);
    }

    /** The first greatest, by y, then x: x, y. */
    private static int[] greatest(Plate p, long[][] row) {
        int[] at = {0, 0};
        for (int y = 0; y < p.high; y++) {
            for (int x = 0; x < p.wide; x++) {
                if (row[x][y] > row[at[0]][at[1]]) {
                    at = new int[] {x, y};
                }
            }
        }
        return at;
    }

    private List<long[]> founds(Plate p, Scene s, int n) {
        List<long[]> all = new ArrayList<>();
        long[][] row = s.shadows(p);
        int other = p.sides().get(0);
        int peak = p.side(0, 0);
        while (all.size() < n) {
            long[][] d = decodeds(p, row);
            int[] at = greatest(p, d);
            long r = restored(p, s, row, d[at[0]][at[1]], other, peak);
            if (r <= 0) {
                break;
            }
            all.add(new long[] {at[0], at[1], r});
            for (int x = 0; x < p.wide; x++) {
                for (int y = 0; y < p.high; y++) {
                    if (!s.isLost(p, x, y) && p.hole(x - at[0], y - at[1])) {
                        row[x][y] = see(row[x][y] - r);
                    }
                }
            }
        }
        return all;
    }

    private long[][] filledRow(Plate p) {
        long[][] row = scene.shadows(p);
        List<long[]> all = founds(p, scene, 8);
        for (int x = 0; x < p.wide; x++) {
            for (int y = 0; y < p.high; y++) {
                if (scene.isLost(p, x, y)) {
                    row[x][y] = scene.back;
                    for (long[] f : all) {
                        row[x][y] += p.hole(x - (int) f[0], y - (int) f[1]) ? f[2] : 0;
                    }
                }
            }
        }
        return row;
    }

    private void act() {
        acts.add(scene.copy());
        if (acts.size() > 12) {
            acts.remove(0);
        }
    }

    // ---- the calls by name

    /** Answers as MaskBench would, with status set as it would be. */
    long call(String name, int... a) {
        if (name.equals("status")) {
            return status;
        }
        if (name.equals("feed")) {
            return feed(a);
        }
        if (name.equals("fault")) {
            return fault(a[0]);
        }
        try {
            long answer = answer(name, a);
            status = 0;
            return answer;
        } catch (Refused r) {
            status = r.status;
            return NONE;
        }
    }

    private long answer(String name, int[] a) {
        switch (name) {
            case "load": return loads(a[0]);
            case "many": return many(a[0]);
            case "plate": return plate(a[0], a[1]);
            case "cell": return cell(a[0], a[1], a[2], a[3]);
            case "differences": return differences(a[0], a[1]);
            case "window": return window(a[0], a[1], a[2], a[3], a[4]);
            case "alike": return alike(a[0], a[1]);
            case "root": return root(a[0], a[1]);
            case "thing": return thing(a[0], a[1], a[2]);
            case "add": return add(a[0], a[1], a[2], a[3]);
            case "drop": return drop(a[0], a[1]);
            case "lose": return lose(a[0], a[1]);
            case "heal": return heal(a[0]);
            case "light": return lights(a[0]);
            case "use": return use(a[0]);
            case "slide": return slide(a[0], a[1]);
            case "undo": return undo();
            case "at": return at(a[0], a[1], a[2]);
            case "all": return all(a[0]);
            case "peak": return peak(a[0]);
            case "found": return found(a[0], a[1]);
            case "frames": return frames(a[0], a[1], a[2], a[3]);
            case "filled": return filled(a[0]);
            case "coarse": return coarse(a[0], a[1]);
            case "anti": return anti(a[0], a[1]);
            case "keep": return keep();
            case "match": return match(a[0]);
            case "minus": return minus(a[0], a[1]);
            case "shots": return shots(a[0], a[1], a[2]);
            case "best": return best(a[0]);
            case "worst": return worst(a[0]);
            case "print": return print();
            case "out": return outByte(a[0]);
            default: throw new IllegalStateException(name);
        }
    }

    private long many(int what) {
        refuse(1, out(what, 0, 6));
        refuse(5, what == 5 && plates.isEmpty());
        return new int[] {plates.size(), scene.sources.size(), scene.lost.size(),
            scene.strays.size(), scene.back, scene.used, acts.size()}[what];
    }

    private long plate(int k, int what) {
        refuse(1, out(what, 0, 7));
        Plate p = told(k);
        refuse(5, what >= 6 && p.cells() == 1);
        switch (what) {
            case 0: return p.wide;
            case 1: return p.high;
            case 2: return p.holes();
            case 3: return p.weights();
            case 4: return p.side(0, 0);
            case 5: return p.flat() ? 1 : 0;
            case 6: return new TreeSet<>(p.sides()).first();
            default: return new TreeSet<>(p.sides()).last();
        }
    }

    private long cell(int k, int x, int y, int what) {
        refuse(1, out(what, 0, 2));
        Plate p = told(k);
        refuse(2, !p.has(x, y));
        return what == 0 ? (p.hole(x, y) ? 1 : 0) : what == 1 ? p.weight(x, y) : p.side(x, y);
    }

    private long differences(int k, int what) {
        refuse(1, out(what, 0, 2));
        Plate p = told(k);
        refuse(5, p.cells() == 1);
        Map<Integer, Integer> times = new HashMap<>();
        for (int s = 0; s < p.wide; s++) {
            for (int t = 0; t < p.high; t++) {
                if (s != 0 || t != 0) {
                    times.merge(p.difference(s, t), 1, Integer::sum);
                }
            }
        }
        TreeSet<Integer> all = new TreeSet<>(times.keySet());
        return what == 0 ? all.first() : what == 1 ? all.last() : times.get(all.last());
    }

    private long window(int k, int x, int y, int w, int h) {
        refuse(1, out(w, 1, 99) || out(h, 1, 99));
        Plate p = told(k);
        refuse(2, !p.has(x, y));
        long n = 0;
        for (int i = 0; i < w; i++) {
            for (int j = 0; j < h; j++) {
                n += p.hole(x + i, y + j) ? 1 : 0;
            }
        }
        return n;
    }

    private long alike(int k, int other) {
        Plate p = told(k);
        Plate q = told(other);
        if (p.wide != q.wide || p.high != q.high) {
            return 0;
        }
        for (int a = 0; a < p.wide; a++) {
            for (int b = 0; b < p.high; b++) {
                if (java.util.Arrays.deepEquals(p.hole, q.turned(a, b).hole)) {
                    return 1;
                }
            }
        }
        return 0;
    }

    private long root(int p, int n) {
        refuse(1, !isPrime(p) || out(n, 1, p - 1));
        for (int r = 1; r < p; r++) {
            if (r * r % p == n) {
                return r;
            }
        }
        throw new Refused(5);
    }

    private List<int[]> things(int kind) {
        return kind == 0 ? scene.sources : kind == 1 ? scene.lost : scene.strays;
    }

    private long thing(int kind, int k, int what) {
        refuse(1, out(kind, 0, 2) || out(what, 0, 2) || (kind == 1 && what == 2));
        refuse(2, k < 0 || k >= things(kind).size());
        return things(kind).get(k)[what];
    }

    private long add(int kind, int x, int y, int counts) {
        refuse(1, kind != 0 && kind != 2);
        refuse(1, out(x, 0, 99) || out(y, 0, 99) || out(counts, 1, 999));
        refuse(3, things(kind).size() >= 8);
        act();
        things(kind).add(new int[] {x, y, counts});
        return things(kind).size() - 1;
    }

    private long drop(int kind, int k) {
        refuse(1, kind != 0 && kind != 2);
        refuse(2, k < 0 || k >= things(kind).size());
        act();
        things(kind).remove(k);
        return things(kind).size();
    }

    private long lose(int x, int y) {
        refuse(1, out(x, 0, 99) || out(y, 0, 99));
        refuse(3, scene.lost.size() >= 12);
        for (int[] l : scene.lost) {
            refuse(4, l[0] == x && l[1] == y);
        }
        act();
        scene.lost.add(new int[] {x, y});
        return scene.lost.size();
    }

    private long heal(int k) {
        refuse(2, k < 0 || k >= scene.lost.size());
        act();
        scene.lost.remove(k);
        return scene.lost.size();
    }

    private long lights(int back) {
        refuse(1, out(back, 0, 99));
        refuse(4, back == scene.back);
        act();
        int was = scene.back;
        scene.back = back;
        return was;
    }

    private long use(int k) {
        told(k);
        refuse(4, k == scene.used);
        act();
        int was = scene.used;
        scene.used = k;
        return was;
    }

    private long slide(int a, int b) {
        refuse(1, out(a, 0, 99) || out(b, 0, 99));
        refuse(4, a == 0 && b == 0);
        refuse(5, scene.sources.isEmpty());
        act();
        for (int[] s : scene.sources) {
            s[0] = (s[0] + a) % 100;
            s[1] = (s[1] + b) % 100;
        }
        return scene.sources.size();
    }

    private long undo() {
        refuse(5, acts.isEmpty());
        scene = acts.remove(acts.size() - 1);
        return acts.size();
    }

    private long at(int x, int y, int what) {
        refuse(1, out(what, 0, 5));
        Plate p = used(x, y);
        long[][] row = scene.shadows(p);
        switch (what) {
            case 0: return row[x][y];
            case 1: return scene.whole(p, x, y);
            case 2: return decoded(p, row, x, y);
            case 3: return decoded(p, scene.wholes(p), x, y) - decoded(p, row, x, y);
            case 4:
                refuse(5, !p.canRestore());
                return restored(p, scene, row, decoded(p, row, x, y), p.sides().get(0),
                    p.side(0, 0));
            default: return scene.truth(p, x, y);
        }
    }

    private long all(int what) {
        refuse(1, out(what, 0, 7));
        Plate p = used();
        long[][] row = scene.shadows(p);
        long[][] whole = scene.wholes(p);
        switch (what) {
            case 0: return sum(p, row);
            case 1: return light(p, scene, row);
            case 2:
                refuse(5, p.holes() == 0);
                return down(light(p, scene, row), p.holes());
            case 3:
                refuse(5, !p.canRestore());
                return error(p, scene, row);
            case 4: return lostCells(p, scene);
            case 7: return sum(p, whole) - sum(p, row);
            default: break;
        }
        long places = 0;
        long farthest = 0;
        for (int x = 0; x < p.wide; x++) {
            for (int y = 0; y < p.high; y++) {
                long moved = decoded(p, whole, x, y) - decoded(p, row, x, y);
                places += moved == 0 ? 0 : 1;
                farthest = Math.max(farthest, Math.abs(moved));
            }
        }
        return what == 5 ? places : farthest;
    }

    private long peak(int what) {
        refuse(1, out(what, 0, 3));
        Plate p = used();
        long[][] d = decodeds(p, scene.shadows(p));
        int[] at = greatest(p, d);
        if (what < 2) {
            return at[what];
        }
        long top = d[at[0]][at[1]];
        if (what == 2) {
            return top;
        }
        long n = 0;
        for (long[] column : d) {
            for (long value : column) {
                n += value == top ? 1 : 0;
            }
        }
        return n;
    }

    private long found(int k, int what) {
        refuse(1, k < -1 || out(what, 0, 2) || (k == -1 && what != 0));
        Plate p = used();
        refuse(5, !p.canRestore());
        List<long[]> all = founds(p, scene, 8);
        if (k == -1) {
            return all.size();
        }
        refuse(5, k >= all.size());
        return all.get(k)[what];
    }

    private long frames(int n, int step, int x, int y) {
        refuse(1, out(n, 1, 20) || out(step, 1, 99));
        Plate p = used(x, y);
        long sum = 0;
        for (int f = 0; f < n; f++) {
            Plate q = p.turned(f * step, 0);
            sum += decoded(q, scene.shadows(q), x, y);
        }
        return see(sum);
    }

    private long filled(int what) {
        refuse(1, out(what, 0, 1));
        Plate p = used();
        refuse(5, !p.canRestore());
        long[][] row = filledRow(p);
        if (what == 0) {
            Scene healed = scene.copy();
            healed.lost.clear();
            return error(p, healed, row);
        }
        long farthest = 0;
        for (int x = 0; x < p.wide; x++) {
            for (int y = 0; y < p.high; y++) {
                if (scene.isLost(p, x, y)) {
                    farthest = Math.max(farthest, Math.abs(row[x][y] - scene.whole(p, x, y)));
                }
            }
        }
        return farthest;
    }

    private long coarse(int m, int k) {
        refuse(1, m < 2 || k < 0);
        Plate p = used();
        refuse(5, p.wide % m != 0);
        long[][] row = scene.shadows(p);
        List<Long> all = new ArrayList<>();
        for (int y = 0; y < p.high; y++) {
            for (int x = 0; x < p.wide; x += m) {
                long n = 0;
                for (int i = 0; i < m; i++) {
                    n += row[x + i][y];
                }
                all.add(n);
            }
        }
        refuse(5, k >= all.size());
        return all.get(k);
    }

    private long anti(int x, int y) {
        Plate p = used(x, y);
        long[][] row = scene.shadows(p);
        long[][] other = scene.shadows(p.negative());
        for (int u = 0; u < p.wide; u++) {
            for (int v = 0; v < p.high; v++) {
                row[u][v] = scene.isLost(p, u, v) ? 0 : row[u][v] - other[u][v];
            }
        }
        return decoded(p, row, x, y);
    }

    private long keep() {
        Plate p = used();
        picture = scene.shadows(p);
        return p.cells();
    }

    private void needPicture(Plate p) {
        refuse(5, picture == null || picture.length != p.wide || picture[0].length != p.high);
    }

    private long match(int what) {
        refuse(1, out(what, 0, 2));
        Plate p = used();
        needPicture(p);
        long[][] row = scene.shadows(p);
        long[][] sums = new long[p.wide][p.high];
        for (int s = 0; s < p.wide; s++) {
            for (int t = 0; t < p.high; t++) {
                for (int x = 0; x < p.wide; x++) {
                    for (int y = 0; y < p.high; y++) {
                        sums[s][t] += picture[x][y] * row[(x + s) % p.wide][(y + t) % p.high];
                    }
                }
            }
        }
        int[] at = greatest(p, sums);
        return what == 2 ? sums[at[0]][at[1]] : at[what];
    }

    private long minus(int x, int y) {
        Plate p = used(x, y);
        needPicture(p);
        long[][] row = scene.shadows(p);
        for (int u = 0; u < p.wide; u++) {
            for (int v = 0; v < p.high; v++) {
                row[u][v] -= picture[u][v];
            }
        }
        return decoded(p, row, x, y);
    }

    private long shots(int n, int seed, int what) {
        refuse(1, out(n, 1, 500) || out(seed, 1, 65536) || out(what, 0, 3));
        Plate p = used();
        List<int[]> owner = new ArrayList<>();
        for (int y = 0; y < p.high; y++) {
            for (int x = 0; x < p.wide; x++) {
                int[] here = {x, y};
                for (long i = scene.whole(p, x, y); i > 0; i--) {
                    owner.add(here);
                }
            }
        }
        refuse(5, owner.isEmpty());
        long[][] counts = new long[p.wide][p.high];
        long hits = 0;
        java.math.BigInteger x = java.math.BigInteger.valueOf(seed);
        for (int i = 0; i < n; i++) {
            x = x.multiply(java.math.BigInteger.valueOf(48271))
                .mod(java.math.BigInteger.valueOf(2147483647));
            int[] at = owner.get(x.mod(java.math.BigInteger.valueOf(owner.size())).intValue());
            if (!scene.isLost(p, at[0], at[1])) {
                counts[at[0]][at[1]]++;
                hits++;
            }
        }
        if (what == 0) {
            return hits;
        }
        long[][] d = decodeds(p, counts);
        int[] at = greatest(p, d);
        return what == 3 ? d[at[0]][at[1]] : at[what - 1];
    }

    private long best(int what) {
        refuse(1, out(what, 0, 1));
        int number = NONE;
        long least = Long.MAX_VALUE;
        for (int k = 0; k < plates.size(); k++) {
            Plate p = plates.get(k);
            if (p.canRestore()) {
                long e = error(p, scene, scene.shadows(p));
                if (e < least) {
                    number = k;
                    least = e;
                }
            }
        }
        refuse(5, number == NONE);
        return what == 0 ? number : least;
    }

    private long worst(int what) {
        refuse(1, out(what, 0, 2));
        Plate p = used();
        refuse(5, !p.canRestore());
        int[] at = null;
        long most = -1;
        for (int y = 0; y < p.high; y++) {
            for (int x = 0; x < p.wide; x++) {
                if (!scene.isLost(p, x, y)) {
                    Scene more = scene.copy();
                    more.lost.add(new int[] {x, y});
                    long e = error(p, more, more.shadows(p));
                    if (e > most) {
                        most = e;
                        at = new int[] {x, y};
                    }
                }
            }
        }
        refuse(5, at == null);
        return what == 2 ? most : at[what];
    }

    private long print() {
        StringBuilder s = new StringBuilder();
        for (Plate p : plates) {
            s.append(p.told);
        }
        for (int[] a : scene.sources) {
            s.append("source " + a[0] + " " + a[1] + " " + a[2] + ";");
        }
        for (int[] a : scene.lost) {
            s.append("lost " + a[0] + " " + a[1] + ";");
        }
        for (int[] a : scene.strays) {
            s.append("stray " + a[0] + " " + a[1] + " " + a[2] + ";");
        }
        s.append("back " + scene.back + ";");
        if (!plates.isEmpty()) {
            s.append("use " + used().name + ";");
        }
        printed = s.toString();
        return printed.length();
    }

    private long outByte(int i) {
        refuse(1, i < 0);
        refuse(5, printed == null || i >= printed.length());
        return printed.charAt(i);
    }
}
