import java.util.Arrays;

/**
 * A bench of cameras without lenses, as ../shared/DOC.md tells it.
 *
 * Every row is made once, in a constructor, and used again by each call.
 */
public final class MaskBench {
    public static final int NONE = -1;

    private static final int MOST_BYTES = 800;
    private static final int MOST_PLATES = 6;
    private static final int MOST_CELLS = 289;
    private static final int MOST_WIDE = 47;
    private static final int MOST_LETTERS = 6;
    private static final int MOST_DIGITS = 4;
    private static final int MOST_BITS = 40;
    private static final int MOST_SQUARE = 17;
    private static final int MOST_SOURCES = 8;
    private static final int MOST_LOST = 12;
    private static final int MOST_STRAYS = 8;
    private static final int MOST_PLACE = 99;
    private static final int MOST_COUNTS = 999;
    private static final int MOST_BACK = 99;
    private static final int MOST_ACTS = 12;
    private static final int MOST_FOUND = 8;
    private static final int MOST_FRAMES = 20;
    private static final int MOST_WINDOW = 99;
    private static final int MOST_SHOTS = 500;
    private static final int MOST_SEED = 65536;
    private static final int FEED_BYTES = 20;
    /** A text may leave out blanks that print() gives: one or two in the LINE of a PLATE. */
    private static final int MOST_TOLD = MOST_BYTES + 2 * MOST_PLATES;
    /** Behind the PLATES come at most 28 LINES of at most 17 bytes, back and use. */
    private static final int MOST_OUT = MOST_TOLD + 30 * 17;

    private static final int FINE = 0;
    private static final int BAD_NUMBER = 1;
    private static final int NO_SUCH = 2;
    private static final int TOO_MANY = 3;
    private static final int SO_ALREADY = 4;
    private static final int NOTHING = 5;
    private static final int FAULTY = 9;

    private static final int SOURCE = 0;
    private static final int LOST = 1;
    private static final int STRAY = 2;
    private static final int KINDS = 3;

    private static final int END = 0;
    private static final int NO_TOKEN = 1;
    private static final int WORD = 2;
    private static final int NUMBER = 3;
    private static final int BITS = 4;
    private static final int SIGN = 5;

    private static final int FAULT_TOKEN = 1;
    private static final int FAULT_PLACE = 2;
    private static final int FAULT_NUMBER = 3;
    private static final int FAULT_NAME = 4;
    private static final int FAULT_BOTH = 5;
    private static final int FAULT_MANY = 6;

    /** The words that are no NAMES; the constants below are their numbers in this text. */
    private static final String KEYWORDS =
        "plate row bits set turn neg both square source lost stray back use ";
    private static final int WORD_PLATE = 0;
    private static final int WORD_ROW = 1;
    private static final int WORD_BITS = 2;
    private static final int WORD_SET = 3;
    private static final int WORD_TURN = 4;
    private static final int WORD_NEG = 5;
    private static final int WORD_BOTH = 6;
    private static final int WORD_SQUARE = 7;
    private static final int WORD_SOURCE = 8;
    private static final int WORD_LOST = 9;
    private static final int WORD_STRAY = 10;
    private static final int WORD_BACK = 11;
    private static final int WORD_USE = 12;

    private final Paper tape = new Paper(MOST_BYTES);
    private final Paper printed = new Paper(MOST_OUT);
    private final Loader loader = new Loader();
    private final History history = new History();
    private final Picture picture = new Picture();
    /** DIFFERENCES, while they are looked through. */
    private final int[] counted = new int[MOST_CELLS];
    private Bench bench = new Bench();
    /** A text is read into this one, so that a FAULT leaves the other as it was. */
    private Bench spare = new Bench();
    private final Camera camera = new Camera(bench.row[0], bench.scene);
    /** Looks through PLATES that are not used, so that what the other has seen stays. */
    private final Camera trial = new Camera(bench.row[0], bench.scene);
    private int state = FINE;
    private int faultKind = NONE;
    private int faultPlace = NONE;

    public MaskBench() {
    }

    public int status() {
        return state;
    }

    public int feed(int a, int b, int c, int d, int e) {
        if (tape.length + FEED_BYTES > MOST_BYTES) {
            return NONE;
        }
        tape.putInt(a);
        tape.putInt(b);
        tape.putInt(c);
        tape.putInt(d);
        tape.putInt(e);
        return tape.length;
    }

    public int load(int n) {
        if (n < 0 || n > tape.length) {
            return refuse(BAD_NUMBER);
        }
        boolean good = loader.read(tape, n, spare);
        tape.clear();
        faultKind = loader.fault;
        faultPlace = loader.place;
        if (!good) {
            return refuse(FAULTY);
        }
        Bench old = bench;
        bench = spare;
        spare = old;
        history.clear();
        picture.clear();
        camera.forget();
        return answer(bench.plates);
    }

    public int fault(int what) {
        if (what == 0) {
            return faultKind;
        }
        return what == 1 ? faultPlace : NONE;
    }

    public int many(int what) {
        if (what < 0 || what > 6) {
            return refuse(BAD_NUMBER);
        }
        switch (what) {
            case 0:
                return answer(bench.plates);
            case 1:
                return answer(bench.scene.sources.count);
            case 2:
                return answer(bench.scene.lost.count);
            case 3:
                return answer(bench.scene.strays.count);
            case 4:
                return answer(bench.scene.back);
            case 5:
                return bench.plates == 0 ? refuse(NOTHING) : answer(bench.scene.used);
            default:
                return answer(history.count);
        }
    }

    // ---- plates

    public int plate(int k, int what) {
        if (what < 0 || what > 7) {
            return refuse(BAD_NUMBER);
        }
        Plate p = bench.plateOf(k);
        if (p == null) {
            return refuse(NO_SUCH);
        }
        if (what >= 6 && p.cells == 1) {
            return refuse(NOTHING);
        }
        return answer(p.figure(what));
    }

    public int cell(int k, int x, int y, int what) {
        if (what < 0 || what > 2) {
            return refuse(BAD_NUMBER);
        }
        Plate p = bench.plateOf(k);
        if (p == null || !p.has(x, y)) {
            return refuse(NO_SUCH);
        }
        int i = y * p.wide + x;
        if (what == 0) {
            return answer(p.hole[i]);
        }
        if (what == 1) {
            return answer(p.weight[i]);
        }
        p.knowSides();
        return answer(p.side[i]);
    }

    public int differences(int k, int what) {
        if (what < 0 || what > 2) {
            return refuse(BAD_NUMBER);
        }
        Plate p = bench.plateOf(k);
        if (p == null) {
            return refuse(NO_SUCH);
        }
        if (p.cells == 1) {
            return refuse(NOTHING);
        }
        p.addOverHoles(counted, p.hole);
        if (what == 0) {
            return answer(p.leastBehindFirst(counted));
        }
        int greatest = p.greatestBehindFirst(counted);
        return answer(what == 1 ? greatest : p.timesBehindFirst(counted, greatest));
    }

    public int window(int k, int x, int y, int w, int h) {
        if (w < 1 || w > MOST_WINDOW || h < 1 || h > MOST_WINDOW) {
            return refuse(BAD_NUMBER);
        }
        Plate p = bench.plateOf(k);
        if (p == null || !p.has(x, y)) {
            return refuse(NO_SUCH);
        }
        int holes = 0;
        for (int v = y; v < y + h; v++) {
            for (int u = x; u < x + w; u++) {
                holes += p.hole[p.indexOf(u, v)];
            }
        }
        return answer(holes);
    }

    public int alike(int k, int other) {
        Plate p = bench.plateOf(k);
        Plate q = bench.plateOf(other);
        if (p == null || q == null) {
            return refuse(NO_SUCH);
        }
        return answer(p.isTurned(q) ? 1 : 0);
    }

    public int root(int p, int n) {
        if (!isPrime(p) || n < 1 || n >= p) {
            return refuse(BAD_NUMBER);
        }
        int r = leastRoot(p, n);
        return r == NONE ? refuse(NOTHING) : answer(r);
    }

    // ---- the scene

    public int thing(int kind, int k, int what) {
        Marks marks = bench.scene.marksOf(kind);
        if (marks == null || what < 0 || what > 2 || (kind == LOST && what == 2)) {
            return refuse(BAD_NUMBER);
        }
        if (!marks.has(k)) {
            return refuse(NO_SUCH);
        }
        if (what == 0) {
            return answer(marks.x[k]);
        }
        return answer(what == 1 ? marks.y[k] : marks.counts[k]);
    }

    public int add(int kind, int x, int y, int counts) {
        if (!isCounting(kind) || !isPlace(x, y) || counts < 1 || counts > MOST_COUNTS) {
            return refuse(BAD_NUMBER);
        }
        Marks marks = bench.scene.marksOf(kind);
        if (marks == null || marks.isFull()) {
            return refuse(TOO_MANY);
        }
        beginAct();
        marks.append(x, y, counts);
        return answer(marks.count - 1);
    }

    public int drop(int kind, int k) {
        if (!isCounting(kind)) {
            return refuse(BAD_NUMBER);
        }
        return takeOut(bench.scene.marksOf(kind), k);
    }

    public int lose(int x, int y) {
        if (!isPlace(x, y)) {
            return refuse(BAD_NUMBER);
        }
        Marks lost = bench.scene.lost;
        if (lost.isFull()) {
            return refuse(TOO_MANY);
        }
        if (lost.tells(x, y)) {
            return refuse(SO_ALREADY);
        }
        beginAct();
        lost.append(x, y, 0);
        return answer(lost.count);
    }

    public int heal(int k) {
        return takeOut(bench.scene.lost, k);
    }

    public int light(int back) {
        if (back < 0 || back > MOST_BACK) {
            return refuse(BAD_NUMBER);
        }
        int was = bench.scene.back;
        if (was == back) {
            return refuse(SO_ALREADY);
        }
        beginAct();
        bench.scene.back = back;
        return answer(was);
    }

    public int use(int k) {
        if (bench.plateOf(k) == null) {
            return refuse(NO_SUCH);
        }
        int was = bench.scene.used;
        if (was == k) {
            return refuse(SO_ALREADY);
        }
        beginAct();
        bench.scene.used = k;
        return answer(was);
    }

    public int slide(int a, int b) {
        if (!isPlace(a, b)) {
            return refuse(BAD_NUMBER);
        }
        if (a == 0 && b == 0) {
            return refuse(SO_ALREADY);
        }
        Marks sources = bench.scene.sources;
        if (sources.count == 0) {
            return refuse(NOTHING);
        }
        beginAct();
        sources.shift(a, b);
        return answer(sources.count);
    }

    public int undo() {
        if (history.count == 0) {
            return refuse(NOTHING);
        }
        history.takeBack(bench.scene);
        camera.forget();
        return answer(history.count);
    }

    // ---- shadows

    public int at(int x, int y, int what) {
        if (what < 0 || what > 5) {
            return refuse(BAD_NUMBER);
        }
        int why = lookAt(x, y);
        if (why == FINE && what == 4) {
            why = lookToRestore();
        }
        if (why != FINE) {
            return refuse(why);
        }
        return answer(camera.figureAt(camera.plate.indexOf(x, y), what));
    }

    public int all(int what) {
        if (what < 0 || what > 7) {
            return refuse(BAD_NUMBER);
        }
        int why = what == 3 ? lookToRestore() : look();
        if (why == FINE && what == 2 && camera.plate.holes == 0) {
            why = NOTHING;
        }
        if (why != FINE) {
            return refuse(why);
        }
        return answer(camera.figure(what));
    }

    public int peak(int what) {
        if (what < 0 || what > 3) {
            return refuse(BAD_NUMBER);
        }
        int why = look();
        if (why != FINE) {
            return refuse(why);
        }
        camera.decode();
        if (what == 3) {
            return answer(camera.timesGreatest(camera.decoded));
        }
        return answer(camera.figureOfGreatest(camera.decoded, what));
    }

    public int found(int k, int what) {
        if (k < NONE || what < 0 || what > 2 || (k == NONE && what != 0)) {
            return refuse(BAD_NUMBER);
        }
        int why = lookToRestore();
        if (why != FINE) {
            return refuse(why);
        }
        camera.seekSources();
        if (k == NONE) {
            return answer(camera.finds);
        }
        if (k >= camera.finds) {
            return refuse(NOTHING);
        }
        if (what == 2) {
            return answer(camera.findCounts[k]);
        }
        return answer(camera.plate.xOrY(camera.findPlace[k], what));
    }

    public int frames(int n, int step, int x, int y) {
        if (n < 1 || n > MOST_FRAMES || step < 1 || step > MOST_PLACE) {
            return refuse(BAD_NUMBER);
        }
        int why = lookAt(x, y);
        if (why != FINE) {
            return refuse(why);
        }
        int sum = 0;
        for (int f = 0; f < n; f++) {
            sum += camera.frameAt(f * step, x, y);
        }
        return answer(sum);
    }

    public int filled(int what) {
        if (what < 0 || what > 1) {
            return refuse(BAD_NUMBER);
        }
        int why = lookToRestore();
        if (why != FINE) {
            return refuse(why);
        }
        camera.fillLost();
        return answer(what == 0 ? camera.errorFilled() : camera.farthestFilled());
    }

    public int coarse(int m, int k) {
        if (m < 2 || k < 0) {
            return refuse(BAD_NUMBER);
        }
        int why = look();
        if (why != FINE) {
            return refuse(why);
        }
        if (camera.plate.wide % m != 0 || k >= camera.plate.cells / m) {
            return refuse(NOTHING);
        }
        // WIDE has m without rest, so no group goes over the end of its row.
        return answer(sumOf(camera.shadow, k * m, m));
    }

    public int anti(int x, int y) {
        int why = lookAt(x, y);
        return why == FINE ? answer(camera.antiAt(x, y)) : refuse(why);
    }

    public int keep() {
        int why = look();
        if (why != FINE) {
            return refuse(why);
        }
        picture.take(camera);
        return answer(camera.plate.cells);
    }

    public long match(int what) {
        if (what < 0 || what > 2) {
            return refuse(BAD_NUMBER);
        }
        int why = look();
        if (why != FINE) {
            return refuse(why);
        }
        if (!picture.fits(camera.plate)) {
            return refuse(NOTHING);
        }
        picture.lay(camera);
        state = FINE;
        return what == 2 ? picture.laidSum : camera.plate.xOrY(picture.laidPlace, what);
    }

    public int minus(int x, int y) {
        int why = lookAt(x, y);
        if (why != FINE) {
            return refuse(why);
        }
        Plate p = camera.plate;
        if (!picture.fits(p)) {
            return refuse(NOTHING);
        }
        return answer(p.weighed(camera.shadow, x, y) - p.weighed(picture.row, x, y));
    }

    public int shots(int n, int seed, int what) {
        if (n < 1 || n > MOST_SHOTS || seed < 1 || seed > MOST_SEED || what < 0 || what > 3) {
            return refuse(BAD_NUMBER);
        }
        int why = look();
        if (why != FINE) {
            return refuse(why);
        }
        int numbers = sumOf(camera.whole, 0, camera.plate.cells);
        if (numbers <= 0) {
            return refuse(NOTHING);
        }
        int hits = camera.shoot(n, seed, numbers);
        if (what == 0) {
            return answer(hits);
        }
        return answer(camera.figureOfShots(what - 1));
    }

    public int best(int what) {
        if (what < 0 || what > 1) {
            return refuse(BAD_NUMBER);
        }
        int number = NONE;
        int least = 0;
        for (int k = 0; k < bench.plates; k++) {
            Plate p = bench.plateOf(k);
            if (p != null && p.canRestore()) {
                trial.forget();
                trial.aim(p, bench.scene);
                int error = trial.figure(3);
                if (number == NONE || error < least) {
                    number = k;
                    least = error;
                }
            }
        }
        if (number == NONE) {
            return refuse(NOTHING);
        }
        return answer(what == 0 ? number : least);
    }

    public int worst(int what) {
        if (what < 0 || what > 2) {
            return refuse(BAD_NUMBER);
        }
        int why = lookToRestore();
        if (why != FINE) {
            return refuse(why);
        }
        camera.seekWorst();
        if (camera.worstPlace == NONE) {
            return refuse(NOTHING);
        }
        if (what == 2) {
            return answer(camera.worstError);
        }
        return answer(camera.plate.xOrY(camera.worstPlace, what));
    }

    // ---- told

    public int print() {
        printed.clear();
        printed.putAll(bench.told);
        printMarks("source", bench.scene.sources, true);
        printMarks("lost", bench.scene.lost, false);
        printMarks("stray", bench.scene.strays, true);
        printed.putWord("back");
        printed.putNumber(bench.scene.back);
        printed.put(';');
        Plate p = bench.plateInUse();
        if (p != null) {
            printed.putWord("use");
            printed.putName(p.name);
            printed.put(';');
        }
        return answer(printed.length);
    }

    public int out(int i) {
        if (i < 0) {
            return refuse(BAD_NUMBER);
        }
        if (i >= printed.length) {
            return refuse(NOTHING);
        }
        return answer(printed.bytes[i]);
    }

    private int answer(int value) {
        state = FINE;
        return value;
    }

    private int refuse(int why) {
        state = why;
        return NONE;
    }

    /** All that changes the scene goes through here ahead of its change. */
    private void beginAct() {
        history.save(bench.scene);
        camera.forget();
    }

    /** Aims the camera: FINE, or the STATUS that tells why it can't be. */
    private int look() {
        Plate p = bench.plateInUse();
        if (p == null) {
            return NO_SUCH;
        }
        camera.aim(p, bench.scene);
        return FINE;
    }

    private int lookAt(int x, int y) {
        int why = look();
        return why == FINE && !camera.plate.has(x, y) ? NO_SUCH : why;
    }

    private int lookToRestore() {
        int why = look();
        return why == FINE && !camera.plate.canRestore() ? NOTHING : why;
    }

    private int takeOut(Marks marks, int k) {
        if (marks == null || !marks.has(k)) {
            return refuse(NO_SUCH);
        }
        beginAct();
        marks.takeOut(k);
        return answer(marks.count);
    }

    private void printMarks(String word, Marks marks, boolean withCounts) {
        for (int k = 0; k < marks.count; k++) {
            printed.putWord(word);
            printed.putNumber(marks.x[k]);
            printed.putNumber(marks.y[k]);
            if (withCounts) {
                printed.putNumber(marks.counts[k]);
            }
            printed.put(';');
        }
    }

    private static boolean isCounting(int kind) {
        return kind == SOURCE || kind == STRAY;
    }

    private static boolean isPlace(int x, int y) {
        return x >= 0 && x <= MOST_PLACE && y >= 0 && y <= MOST_PLACE;
    }

    private static int sumOf(int[] row, int from, int many) {
        int sum = 0;
        for (int i = from; i < from + many; i++) {
            sum += row[i];
        }
        return sum;
    }

    private static boolean isPrime(int p) {
        if (p < 3 || p > MOST_WIDE) {
            return false;
        }
        for (int d = 2; d * d <= p; d++) {
            if (p % d == 0) {
                return false;
            }
        }
        return true;
    }

    private static int leastRoot(int p, int n) {
        for (int r = 1; r < p; r++) {
            if (r * r % p == n) {
                return r;
            }
        }
        return NONE;
    }

    /** Five bits a letter: a WORD of six still has room in an int, and none is 0. */
    private static int packed(int word, int letter) {
        return word * 32 + (letter - 'a' + 1);
    }

    private static int keyword(int word) {
        int number = 0;
        int code = 0;
        for (int i = 0; i < KEYWORDS.length(); i++) {
            char c = KEYWORDS.charAt(i);
            if (c != ' ') {
                code = packed(code, c);
            } else if (code == word) {
                return number;
            } else {
                number++;
                code = 0;
            }
        }
        return NONE;
    }

    /** Bytes one behind the other: the tape, what was told of PLATES, OUT. */
    private static final class Paper {
        private final int[] bytes;
        private int length = 0;

        private Paper(int most) {
            bytes = new int[Math.max(most, 0)];
        }

        private void clear() {
            length = 0;
        }

        private void put(int b) {
            if (length < bytes.length) {
                bytes[length] = b;
                length++;
            }
        }

        private void putInt(int four) {
            for (int shift = 24; shift >= 0; shift -= 8) {
                put((four >> shift) & 255);
            }
        }

        private void putAll(Paper other) {
            for (int i = 0; i < other.length; i++) {
                put(other.bytes[i]);
            }
        }

        /** The place behind the bytes from i on that are low to high. */
        private int endOfRun(int i, int end, int low, int high) {
            int stop = i;
            while (stop < end && bytes[stop] >= low && bytes[stop] <= high) {
                stop++;
            }
            return stop;
        }

        /** Ahead of each TOKEN but the first of a LINE. */
        private void putBlank() {
            if (length > 0 && bytes[length - 1] != ';') {
                put(' ');
            }
        }

        private void putWord(String word) {
            putBlank();
            for (int i = 0; i < word.length(); i++) {
                put(word.charAt(i));
            }
        }

        private void putNumber(int number) {
            putBlank();
            int unit = 1;
            while (unit < 1000 && number / unit >= 10) {
                unit *= 10;
            }
            for (; unit > 0; unit /= 10) {
                put('0' + number / unit % 10);
            }
        }

        private void putName(int name) {
            putBlank();
            for (int shift = 25; shift >= 0; shift -= 5) {
                int letter = (name >> shift) & 31;
                if (letter != 0) {
                    put('a' + letter - 1);
                }
            }
        }
    }

    /** SOURCES, LOST ones or STRAYS, numbered as they lie. */
    private static final class Marks {
        private final int[] x;
        private final int[] y;
        private final int[] counts;
        private int count = 0;

        private Marks(int most) {
            int room = Math.max(most, 0);
            x = new int[room];
            y = new int[room];
            counts = new int[room];
        }

        private boolean has(int k) {
            return k >= 0 && k < count;
        }

        private boolean isFull() {
            return count >= x.length;
        }

        private boolean tells(int atX, int atY) {
            for (int k = 0; k < count; k++) {
                if (x[k] == atX && y[k] == atY) {
                    return true;
                }
            }
            return false;
        }

        private void append(int atX, int atY, int howMany) {
            if (isFull()) {
                return;
            }
            x[count] = atX;
            y[count] = atY;
            counts[count] = howMany;
            count++;
        }

        private void takeOut(int k) {
            if (!has(k)) {
                return;
            }
            for (int i = k; i + 1 < count; i++) {
                x[i] = x[i + 1];
                y[i] = y[i + 1];
                counts[i] = counts[i + 1];
            }
            count--;
        }

        private void shift(int a, int b) {
            for (int k = 0; k < count; k++) {
                x[k] = (x[k] + a) % (MOST_PLACE + 1);
                y[k] = (y[k] + b) % (MOST_PLACE + 1);
            }
        }

        private void copyFrom(Marks other) {
            count = Math.min(other.count, x.length);
            for (int k = 0; k < count; k++) {
                x[k] = other.x[k];
                y[k] = other.y[k];
                counts[k] = other.counts[k];
            }
        }
    }

    /** All that ACTS change. */
    private static final class Scene {
        private final Marks sources = new Marks(MOST_SOURCES);
        private final Marks lost = new Marks(MOST_LOST);
        private final Marks strays = new Marks(MOST_STRAYS);
        private int back = 0;
        private int used = 0;

        private Marks marksOf(int kind) {
            if (kind < 0 || kind >= KINDS) {
                return null;
            }
            if (kind == SOURCE) {
                return sources;
            }
            return kind == LOST ? lost : strays;
        }

        private void clear() {
            sources.count = 0;
            lost.count = 0;
            strays.count = 0;
            back = 0;
            used = 0;
        }

        private void copyFrom(Scene other) {
            sources.copyFrom(other.sources);
            lost.copyFrom(other.lost);
            strays.copyFrom(other.strays);
            back = other.back;
            used = other.used;
        }
    }

    /** The scenes ahead of the latest ACTS, in a ring: the oldest one makes room. */
    private static final class History {
        private final Scene[] ring = new Scene[MOST_ACTS];
        private int first = 0;
        private int count = 0;

        private History() {
            for (int i = 0; i < MOST_ACTS; i++) {
                ring[i] = new Scene();
            }
        }

        private void clear() {
            count = 0;
        }

        private void save(Scene scene) {
            if (count == MOST_ACTS) {
                first = (first + 1) % MOST_ACTS;
                count--;
            }
            ring[(first + count) % MOST_ACTS].copyFrom(scene);
            count++;
        }

        private void takeBack(Scene scene) {
            if (count > 0) {
                count--;
                scene.copyFrom(ring[(first + count) % MOST_ACTS]);
            }
        }
    }

    /** CELLS by y, then x, in rows of which the first WIDE times HIGH are used. */
    private static final class Plate {
        private final int[] hole = new int[MOST_CELLS];
        private final int[] weight = new int[MOST_CELLS];
        private final int[] side = new int[MOST_CELLS];
        private int name = 0;
        private int wide = 1;
        private int high = 1;
        private int cells = 1;
        private int holes = 0;
        private int weights = 0;
        private boolean sidesKnown = false;
        private int leastSide = 0;
        private int greatestSide = 0;

        private boolean has(int x, int y) {
            return x >= 0 && x < wide && y >= 0 && y < high;
        }

        private int indexOf(int x, int y) {
            return Math.floorMod(y, high) * wide + Math.floorMod(x, wide);
        }

        private int xOf(int place) {
            return place % wide;
        }

        private int yOf(int place) {
            return place / wide;
        }

        private int xOrY(int place, int what) {
            return what == 0 ? xOf(place) : yOf(place);
        }

        private void makeClosedRow(int width) {
            resize(width, 1);
            Arrays.fill(hole, 0, cells, 0);
        }

        private void makeRow(int p) {
            makeClosedRow(p);
            for (int x = 1; x < cells; x++) {
                hole[x] = leastRoot(p, x) == NONE ? 0 : 1;
            }
            weighByHoles();
            if (p % 4 == 1) {
                weight[0] = 1;
            }
        }

        private void makeSquare(int p) {
            resize(p, p);
            for (int x = 0; x < wide; x++) {
                boolean xLeft = leastRoot(p, x) != NONE;
                for (int y = 0; y < high; y++) {
                    boolean yLeft = leastRoot(p, y) != NONE;
                    boolean open = x != 0 && (y == 0 || xLeft == yLeft);
                    hole[y * wide + x] = open ? 1 : 0;
                }
            }
            weighByHoles();
            weight[0] = 1;
        }

        private void makeTurned(Plate a, int byX, int byY) {
            resize(a.wide, a.high);
            Arrays.fill(hole, 0, cells, 0);
            Arrays.fill(weight, 0, cells, 0);
            addShifted(hole, a.hole, -byX, -byY, 1);
            addShifted(weight, a.weight, -byX, -byY, 1);
        }

        private void makeNegative(Plate a) {
            resize(a.wide, a.high);
            for (int i = 0; i < cells; i++) {
                hole[i] = 1 - a.hole[i];
                weight[i] = -a.weight[i];
            }
        }

        private void makeBoth(Plate a, Plate b) {
            resize(a.wide, b.wide);
            for (int i = 0; i < cells; i++) {
                int x = xOf(i);
                int y = yOf(i);
                hole[i] = a.hole[x] == b.hole[y] ? 1 : 0;
                weight[i] = a.weight[x] * b.weight[y];
            }
        }

        /** A size that no row has room for is never asked for; it would be one CELL. */
        private void resize(int newWide, int newHigh) {
            boolean fits = newWide >= 1 && newHigh >= 1
                && newWide <= MOST_CELLS && newHigh <= MOST_CELLS / newWide;
            wide = fits ? newWide : 1;
            high = fits ? newHigh : 1;
            cells = wide * high;
            sidesKnown = false;
        }

        private void weighByHoles() {
            for (int i = 0; i < cells; i++) {
                weight[i] = hole[i] == 1 ? 1 : -1;
            }
        }

        private void countUp() {
            holes = sumOf(hole, 0, cells);
            weights = sumOf(weight, 0, cells);
        }

        /** To target at x, y comes times the pattern at x + dx, y + dy. */
        private void addShifted(int[] target, int[] pattern, int dx, int dy, int times) {
            int firstX = Math.floorMod(dx, wide);
            int py = Math.floorMod(dy, high);
            int i = 0;
            for (int y = 0; y < high; y++) {
                int px = firstX;
                for (int x = 0; x < wide; x++) {
                    target[i] += times * pattern[py * wide + px];
                    i++;
                    px = px + 1 == wide ? 0 : px + 1;
                }
                py = py + 1 == high ? 0 : py + 1;
            }
        }

        /** To target at x, y comes times the pattern at place less x, y: what a CELL decodes to. */
        private void addMirrored(int[] target, int[] pattern, int place, int times) {
            int py = yOf(place);
            int i = 0;
            for (int y = 0; y < high; y++) {
                int px = xOf(place);
                for (int x = 0; x < wide; x++) {
                    target[i] += times * pattern[py * wide + px];
                    i++;
                    px = px == 0 ? wide - 1 : px - 1;
                }
                py = py == 0 ? high - 1 : py - 1;
            }
        }

        /** Makes target at s, t the pattern at x + s, y + t of all HOLES x, y added. */
        private void addOverHoles(int[] target, int[] pattern) {
            Arrays.fill(target, 0, cells, 0);
            for (int i = 0; i < cells; i++) {
                if (hole[i] == 1) {
                    addShifted(target, pattern, xOf(i), yOf(i), 1);
                }
            }
        }

        /** Makes target all places' decoded row. */
        private void decodeAll(int[] row, int[] target) {
            Arrays.fill(target, 0, cells, 0);
            for (int i = 0; i < cells; i++) {
                if (row[i] != 0) {
                    addMirrored(target, weight, i, row[i]);
                }
            }
        }

        /** A row decoded at one place. */
        private int weighed(int[] row, int x, int y) {
            int sum = 0;
            for (int i = 0; i < cells; i++) {
                if (row[i] != 0) {
                    sum += row[i] * weight[indexOf(xOf(i) - x, yOf(i) - y)];
                }
            }
            return sum;
        }

        private int leastBehindFirst(int[] row) {
            int least = cells > 1 ? row[1] : 0;
            for (int i = 2; i < cells; i++) {
                least = Math.min(least, row[i]);
            }
            return least;
        }

        private int greatestBehindFirst(int[] row) {
            int greatest = cells > 1 ? row[1] : 0;
            for (int i = 2; i < cells; i++) {
                greatest = Math.max(greatest, row[i]);
            }
            return greatest;
        }

        private int timesBehindFirst(int[] row, int value) {
            int times = 0;
            for (int i = 1; i < cells; i++) {
                times += row[i] == value ? 1 : 0;
            }
            return times;
        }

        /** SIDES are dear, and many PLATES are never asked for theirs: they wait till then. */
        private void knowSides() {
            if (sidesKnown) {
                return;
            }
            addOverHoles(side, weight);
            leastSide = leastBehindFirst(side);
            greatestSide = greatestBehindFirst(side);
            sidesKnown = true;
        }

        private int figure(int what) {
            if (what >= 4) {
                knowSides();
            }
            switch (what) {
                case 0:
                    return wide;
                case 1:
                    return high;
                case 2:
                    return holes;
                case 3:
                    return weights;
                case 4:
                    return side[0];
                case 5:
                    return leastSide == greatestSide ? 1 : 0;
                case 6:
                    return leastSide;
                default:
                    return greatestSide;
            }
        }

        private boolean canRestore() {
            knowSides();
            return cells >= 2 && holes > 0 && leastSide == greatestSide && side[0] != leastSide;
        }

        private boolean isTurned(Plate other) {
            if (wide != other.wide || high != other.high || holes != other.holes) {
                return false;
            }
            for (int i = 0; i < cells; i++) {
                if (hasHolesOf(other, xOf(i), yOf(i))) {
                    return true;
                }
            }
            return false;
        }

        private boolean hasHolesOf(Plate other, int dx, int dy) {
            for (int i = 0; i < cells; i++) {
                if (hole[i] != other.hole[other.indexOf(xOf(i) + dx, yOf(i) + dy)]) {
                    return false;
                }
            }
            return true;
        }
    }

    /** PLATES with a scene, as a text tells them. */
    private static final class Bench {
        private final Plate[] row = new Plate[MOST_PLATES];
        private final Scene scene = new Scene();
        /** The LINES of the PLATES as they were told, but for their blanks. */
        private final Paper told = new Paper(MOST_TOLD);
        private int plates = 0;

        private Bench() {
            for (int k = 0; k < MOST_PLATES; k++) {
                row[k] = new Plate();
            }
        }

        private void clear() {
            scene.clear();
            told.clear();
            plates = 0;
        }

        private Plate plateOf(int k) {
            return k >= 0 && k < plates ? row[k] : null;
        }

        private Plate plateInUse() {
            return plateOf(scene.used);
        }

        /** The PLATE that a LINE named and the loader looked up; never null. */
        private Plate named(int k) {
            return row[k >= 0 && k < plates ? k : 0];
        }

        /** The PLATE that comes next, behind the test that there is room for one. */
        private Plate next() {
            return row[Math.min(plates, MOST_PLATES - 1)];
        }

        /** Whether a LINE with this word would be one too many. */
        private boolean isFullOf(int word) {
            switch (word) {
                case WORD_PLATE:
                    return plates >= MOST_PLATES;
                case WORD_SOURCE:
                    return scene.sources.isFull();
                case WORD_LOST:
                    return scene.lost.isFull();
                case WORD_STRAY:
                    return scene.strays.isFull();
                default:
                    return false;
            }
        }

        private int numberOf(int name) {
            for (int k = 0; k < plates; k++) {
                if (row[k].name == name) {
                    return k;
                }
            }
            return NONE;
        }
    }

    /** The TOKENS of a text, the last of them END. */
    private static final class Tokens {
        private final int[] kind = new int[MOST_BYTES + 1];
        private final int[] from = new int[MOST_BYTES + 1];
        private final int[] end = new int[MOST_BYTES + 1];
        /** The letters of a WORD, the value of a NUMBER, how many BITS. */
        private final int[] value = new int[MOST_BYTES + 1];
        private int count = 0;

        private void split(Paper text, int n) {
            int length = Math.min(n, text.length);
            int behind = 0;
            count = 0;
            for (int i = 0; i < length; i++) {
                if (i >= behind && text.bytes[i] != 10 && text.bytes[i] != 32) {
                    behind = cut(text, i, length);
                }
            }
            append(END, length, length, 0);
        }

        /** The TOKEN that begins at i: the place behind it. */
        private int cut(Paper text, int i, int length) {
            int first = text.bytes[i];
            int stop = i + 1;
            if (first >= 'a' && first <= 'z') {
                stop = text.endOfRun(i, length, 'a', 'z');
                append(stop - i <= MOST_LETTERS ? WORD : NO_TOKEN, i, stop, wordOf(text, i, stop));
            } else if (first >= '0' && first <= '9') {
                stop = text.endOfRun(i, length, '0', '9');
                append(stop - i <= MOST_DIGITS ? NUMBER : NO_TOKEN, i, stop,
                    numberOf(text, i, stop));
            } else if (first == '#') {
                stop = text.endOfRun(i + 1, length, '0', '1');
                int bits = stop - i - 1;
                append(bits >= 1 && bits <= MOST_BITS ? BITS : NO_TOKEN, i, stop, bits);
            } else {
                append(first == ';' ? SIGN : NO_TOKEN, i, stop, 0);
            }
            return stop;
        }

        private void append(int newKind, int start, int stop, int newValue) {
            if (count < kind.length) {
                kind[count] = newKind;
                from[count] = start;
                end[count] = stop;
                value[count] = newValue;
                count++;
            }
        }

        private static int wordOf(Paper text, int start, int stop) {
            int word = 0;
            for (int i = start; i < stop; i++) {
                word = packed(word, text.bytes[i]);
            }
            return word;
        }

        private static int numberOf(Paper text, int start, int stop) {
            int number = 0;
            for (int i = start; i < stop; i++) {
                number = number * 10 + (text.bytes[i] - '0');
            }
            return number;
        }
    }

    /** Reads a text into a bench, up to its first FAULT: its methods answer false at one. */
    private static final class Loader {
        private final Tokens tokens = new Tokens();
        /** What a LINE gave: NUMBERS, and the numbers of PLATES that it names. */
        private final int[] given = new int[3];
        private int givenCount = 0;
        /** The TOKEN at hand. */
        private int here = 0;
        private int fault = 0;
        private int place = NONE;

        private boolean read(Paper text, int n, Bench bench) {
            bench.clear();
            tokens.split(text, n);
            here = 0;
            fault = 0;
            place = NONE;
            for (int lines = 0; lines < tokens.count && tokens.kind[here] != END; lines++) {
                if (!readLine(text, bench)) {
                    return false;
                }
            }
            return true;
        }

        private boolean readLine(Paper text, Bench bench) {
            int first = here;
            givenCount = 0;
            if (!takeLineWord(bench)) {
                return false;
            }
            int word = keyword(tokens.value[first]);
            if (word == WORD_PLATE) {
                if (!takeNewName(bench) || !takeFormWord()) {
                    return false;
                }
                word = keyword(tokens.value[here - 1]);
            }
            String slots = slotsOf(word);
            for (int i = 0; i < slots.length(); i++) {
                if (!takeSlot(slots.charAt(i), text, bench)) {
                    return false;
                }
            }
            if (word <= WORD_SQUARE) {
                finishPlate(word, bench);
                tellLine(first, text, bench.told);
            } else {
                finishScene(word, bench.scene);
            }
            return true;
        }

        /**
         * What stands behind a word, a sign a TOKEN: r a PRIME, q a PRIME of a square, # BITS,
         * w WIDE, * places (any number), n a NAME, a and b the NAMES of both, x 0 to 99, c COUNTS.
         */
        private static String slotsOf(int word) {
            switch (word) {
                case WORD_ROW:
                    return "r;";
                case WORD_SQUARE:
                    return "q;";
                case WORD_BITS:
                    return "#;";
                case WORD_SET:
                    return "w*;";
                case WORD_TURN:
                    return "nxx;";
                case WORD_BOTH:
                    return "ab;";
                case WORD_LOST:
                    return "xx;";
                case WORD_BACK:
                    return "x;";
                case WORD_NEG:
                case WORD_USE:
                    return "n;";
                default:
                    return "xxc;";
            }
        }

        private boolean takeSlot(int slot, Paper text, Bench bench) {
            switch (slot) {
                case 'r':
                    return takePrime(MOST_WIDE);
                case 'q':
                    return takePrime(MOST_SQUARE);
                case '#':
                    return takeBits(text, bench.next());
                case 'w':
                    return takeNumber(1, MOST_WIDE);
                case '*':
                    return takePlaces(bench.next());
                case 'n':
                    return takeNamed(bench, MOST_CELLS, MOST_CELLS);
                case 'a':
                    return takeNamed(bench, MOST_CELLS, 1);
                case 'b':
                    return takeNamed(bench, MOST_CELLS / bench.named(given[0]).wide, 1);
                case 'x':
                    return takeNumber(0, MOST_PLACE);
                case 'c':
                    return takeNumber(1, MOST_COUNTS);
                default:
                    return takeSign();
            }
        }

        private boolean takeLineWord(Bench bench) {
            if (!expect(WORD)) {
                return false;
            }
            int word = keyword(tokens.value[here]);
            if (word != WORD_PLATE && word < WORD_SOURCE) {
                return wrong(FAULT_PLACE);
            }
            if (bench.isFullOf(word)) {
                return wrong(FAULT_MANY);
            }
            here++;
            return true;
        }

        private boolean takeFormWord() {
            if (!expect(WORD)) {
                return false;
            }
            int word = keyword(tokens.value[here]);
            if (word < WORD_ROW || word > WORD_SQUARE) {
                return wrong(FAULT_PLACE);
            }
            here++;
            return true;
        }

        private boolean takeNewName(Bench bench) {
            if (!expect(WORD)) {
                return false;
            }
            int name = tokens.value[here];
            if (keyword(name) != NONE) {
                return wrong(FAULT_PLACE);
            }
            if (bench.numberOf(name) != NONE) {
                return wrong(FAULT_NAME);
            }
            bench.next().name = name;
            here++;
            return true;
        }

        /** The NAME of a PLATE that was told ahead; for both, one of a size that it can take. */
        private boolean takeNamed(Bench bench, int mostWide, int mostHigh) {
            if (!expect(WORD)) {
                return false;
            }
            if (keyword(tokens.value[here]) != NONE) {
                return wrong(FAULT_PLACE);
            }
            int number = bench.numberOf(tokens.value[here]);
            Plate named = bench.plateOf(number);
            if (named == null) {
                return wrong(FAULT_NAME);
            }
            if (named.wide > mostWide || named.high > mostHigh) {
                return wrong(FAULT_BOTH);
            }
            return take(number);
        }

        private boolean takeNumber(int least, int most) {
            if (!expect(NUMBER)) {
                return false;
            }
            int number = tokens.value[here];
            return number < least || number > most ? wrong(FAULT_NUMBER) : take(number);
        }

        private boolean takePrime(int most) {
            if (!expect(NUMBER)) {
                return false;
            }
            int number = tokens.value[here];
            return number > most || !isPrime(number) ? wrong(FAULT_NUMBER) : take(number);
        }

        private boolean takeBits(Paper text, Plate p) {
            if (!expect(BITS)) {
                return false;
            }
            p.makeClosedRow(tokens.value[here]);
            int first = tokens.from[here] + 1;
            for (int x = 0; x < p.wide; x++) {
                p.hole[x] = text.bytes[first + x] == '1' ? 1 : 0;
            }
            here++;
            return true;
        }

        private boolean takePlaces(Plate p) {
            p.makeClosedRow(given[0]);
            for (int places = 0; places < tokens.count && tokens.kind[here] == NUMBER; places++) {
                int x = tokens.value[here];
                if (!p.has(x, 0) || p.hole[x] == 1) {
                    return wrong(FAULT_NUMBER);
                }
                p.hole[x] = 1;
                here++;
            }
            return true;
        }

        private boolean takeSign() {
            if (!expect(SIGN)) {
                return false;
            }
            here++;
            return true;
        }

        private boolean take(int value) {
            if (givenCount < given.length) {
                given[givenCount] = value;
                givenCount++;
            }
            here++;
            return true;
        }

        private boolean expect(int kind) {
            if (tokens.kind[here] == NO_TOKEN) {
                return wrong(FAULT_TOKEN);
            }
            return tokens.kind[here] == kind || wrong(FAULT_PLACE);
        }

        private boolean wrong(int kind) {
            fault = kind;
            place = tokens.from[here];
            return false;
        }

        private void finishPlate(int form, Bench bench) {
            Plate p = bench.next();
            switch (form) {
                case WORD_ROW:
                    p.makeRow(given[0]);
                    break;
                case WORD_SQUARE:
                    p.makeSquare(given[0]);
                    break;
                case WORD_TURN:
                    p.makeTurned(bench.named(given[0]), given[1], given[2]);
                    break;
                case WORD_NEG:
                    p.makeNegative(bench.named(given[0]));
                    break;
                case WORD_BOTH:
                    p.makeBoth(bench.named(given[0]), bench.named(given[1]));
                    break;
                default:
                    p.weighByHoles();
                    break;
            }
            p.countUp();
            bench.plates++;
        }

        private void finishScene(int word, Scene scene) {
            switch (word) {
                case WORD_SOURCE:
                    scene.sources.append(given[0], given[1], given[2]);
                    break;
                case WORD_LOST:
                    scene.lost.append(given[0], given[1], 0);
                    break;
                case WORD_STRAY:
                    scene.strays.append(given[0], given[1], given[2]);
                    break;
                case WORD_BACK:
                    scene.back = given[0];
                    break;
                default:
                    scene.used = given[0];
                    break;
            }
        }

        /** The TOKENS from first on to the one at hand, kept for print(). */
        private void tellLine(int first, Paper text, Paper told) {
            for (int t = first; t < here; t++) {
                if (tokens.kind[t] != SIGN) {
                    told.putBlank();
                }
                for (int i = tokens.from[t]; i < tokens.end[t]; i++) {
                    told.put(text.bytes[i]);
                }
            }
        }
    }

    /** A PLATE with a scene ahead of it: shadows, and what can be made of them. */
    private static final class Camera {
        private final int[] lost = new int[MOST_CELLS];
        private final int[] whole = new int[MOST_CELLS];
        private final int[] shadow = new int[MOST_CELLS];
        private final int[] truth = new int[MOST_CELLS];
        private final int[] decoded = new int[MOST_CELLS];
        /** Two rows for what is made for one call alone. */
        private final int[] made = new int[MOST_CELLS];
        private final int[] work = new int[MOST_CELLS];
        private final int[] findPlace = new int[MOST_FOUND];
        private final int[] findCounts = new int[MOST_FOUND];
        private int finds = 0;
        private int worstPlace = NONE;
        private int worstError = 0;
        private int lostCells = 0;
        private Plate plate;
        private Scene scene;
        private boolean aimed = false;
        private boolean isDecoded = false;
        private boolean isSought = false;
        private boolean isWorstKnown = false;

        /** Till it is aimed for the first time it looks through a PLATE that no text told. */
        private Camera(Plate p, Scene s) {
            plate = p;
            scene = s;
        }

        /** PLATE or scene are others now: all is to be looked at anew. */
        private void forget() {
            aimed = false;
        }

        private void aim(Plate p, Scene s) {
            if (aimed) {
                return;
            }
            plate = p;
            scene = s;
            aimed = true;
            isDecoded = false;
            isSought = false;
            isWorstKnown = false;
            markLost();
            Arrays.fill(truth, 0, plate.cells, 0);
            addCounts(truth, scene.sources);
            throwAll(whole, 0);
            for (int i = 0; i < plate.cells; i++) {
                shadow[i] = lost[i] == 1 ? 0 : whole[i];
            }
        }

        private void markLost() {
            Arrays.fill(lost, 0, plate.cells, 0);
            Marks marks = scene.lost;
            for (int k = 0; k < marks.count; k++) {
                lost[plate.indexOf(marks.x[k], marks.y[k])] = 1;
            }
            lostCells = sumOf(lost, 0, plate.cells);
        }

        private void addCounts(int[] row, Marks marks) {
            for (int k = 0; k < marks.count; k++) {
                row[plate.indexOf(marks.x[k], marks.y[k])] += marks.counts[k];
            }
        }

        /** Makes row the WHOLE shadow by the PLATE turned in x. */
        private void throwAll(int[] row, int turned) {
            Arrays.fill(row, 0, plate.cells, scene.back);
            Marks sources = scene.sources;
            for (int k = 0; k < sources.count; k++) {
                plate.addShifted(row, plate.hole, -(sources.x[k] + turned), -sources.y[k],
                    sources.counts[k]);
            }
            addCounts(row, scene.strays);
        }

        private void clearLost(int[] row) {
            for (int i = 0; i < plate.cells; i++) {
                if (lost[i] == 1) {
                    row[i] = 0;
                }
            }
        }

        private void decode() {
            if (!isDecoded) {
                plate.decodeAll(shadow, decoded);
                isDecoded = true;
            }
        }

        private int figureAt(int i, int what) {
            switch (what) {
                case 0:
                    return shadow[i];
                case 1:
                    return whole[i];
                case 2:
                    decode();
                    return decoded[i];
                case 3:
                    findMoved();
                    return made[i];
                case 4:
                    decode();
                    return restoredBy(decoded[i], floorBy(lightSeen()));
                default:
                    return truth[i];
            }
        }

        private int figure(int what) {
            switch (what) {
                case 0:
                    return sumOf(shadow, 0, plate.cells);
                case 1:
                    return lightSeen();
                case 2:
                    return lightByHoles(lightSeen());
                case 3:
                    decode();
                    return errorOf(decoded, lightSeen());
                case 4:
                    return lostCells;
                case 5:
                    return movedPlaces();
                case 6:
                    return farthestMoved();
                default:
                    return sumOf(whole, 0, plate.cells) - sumOf(shadow, 0, plate.cells);
            }
        }

        private int lightSeen() {
            return sumOf(shadow, 0, plate.cells) - scene.back * (plate.cells - lostCells);
        }

        private int lightByHoles(int light) {
            return plate.holes > 0 ? Math.floorDiv(light, plate.holes) : 0;
        }

        /** What is decoded at each place, though no source is there. */
        private int floorBy(int light) {
            return plate.leastSide * lightByHoles(light) + scene.back * plate.weights;
        }

        /** Only a PLATE that can restore is asked for this. */
        private int restoredBy(int value, int floor) {
            int divisor = plate.side[0] - plate.leastSide;
            return divisor == 0 ? 0 : Math.floorDiv(value - floor, divisor);
        }

        private int errorOf(int[] row, int light) {
            int floor = floorBy(light);
            int error = 0;
            for (int i = 0; i < plate.cells; i++) {
                error += Math.abs(restoredBy(row[i], floor) - truth[i]);
            }
            return error;
        }

        /** MOVED of all places, into made: what the LOST CELLS alone would decode to. */
        private void findMoved() {
            for (int i = 0; i < plate.cells; i++) {
                work[i] = whole[i] - shadow[i];
            }
            plate.decodeAll(work, made);
        }

        private int movedPlaces() {
            findMoved();
            int places = 0;
            for (int i = 0; i < plate.cells; i++) {
                places += made[i] != 0 ? 1 : 0;
            }
            return places;
        }

        private int farthestMoved() {
            findMoved();
            int farthest = 0;
            for (int i = 0; i < plate.cells; i++) {
                farthest = Math.max(farthest, Math.abs(made[i]));
            }
            return farthest;
        }

        private int placeOfGreatest(int[] row) {
            int place = 0;
            for (int i = 1; i < plate.cells; i++) {
                if (row[i] > row[place]) {
                    place = i;
                }
            }
            return place;
        }

        private int timesGreatest(int[] row) {
            int greatest = row[placeOfGreatest(row)];
            int times = 0;
            for (int i = 0; i < plate.cells; i++) {
                times += row[i] == greatest ? 1 : 0;
            }
            return times;
        }

        private int figureOfGreatest(int[] row, int what) {
            int place = placeOfGreatest(row);
            return what == 2 ? row[place] : plate.xOrY(place, what);
        }

        /** FOUND by 8; made holds what all places decode to behind each one. */
        private void seekSources() {
            if (isSought) {
                return;
            }
            isSought = true;
            finds = 0;
            decode();
            System.arraycopy(decoded, 0, made, 0, plate.cells);
            int light = lightSeen();
            for (int n = 0; n < MOST_FOUND; n++) {
                int place = placeOfGreatest(made);
                int counts = restoredBy(made[place], floorBy(light));
                if (counts <= 0) {
                    return;
                }
                findPlace[n] = place;
                findCounts[n] = counts;
                finds = n + 1;
                light -= counts * takeFromMade(place, counts);
            }
        }

        /**
         * Takes from made what a source's shadow on CELLS that are not LOST decodes to (its SIDES,
         * but for the LOST ones): on how many CELLS it was.
         */
        private int takeFromMade(int place, int counts) {
            int lit = plate.holes;
            plate.addMirrored(made, plate.side, place, -counts);
            for (int i = 0; i < plate.cells; i++) {
                if (lost[i] == 1 && throwsOn(place, i) == 1) {
                    plate.addMirrored(made, plate.weight, i, counts);
                    lit--;
                }
            }
            return lit;
        }

        private int throwsOn(int place, int i) {
            int x = plate.xOf(i) - plate.xOf(place);
            int y = plate.yOf(i) - plate.yOf(place);
            return plate.hole[plate.indexOf(x, y)];
        }

        private int frameAt(int turned, int x, int y) {
            throwAll(made, turned);
            clearLost(made);
            return plate.weighed(made, x + turned, y);
        }

        /** FILLED, into work. */
        private void fillLost() {
            seekSources();
            for (int i = 0; i < plate.cells; i++) {
                work[i] = lost[i] == 1 ? scene.back + thrownByFound(i) : shadow[i];
            }
        }

        private int thrownByFound(int i) {
            int sum = 0;
            for (int n = 0; n < finds; n++) {
                sum += findCounts[n] * throwsOn(findPlace[n], i);
            }
            return sum;
        }

        private int errorFilled() {
            plate.decodeAll(work, made);
            return errorOf(made, sumOf(work, 0, plate.cells) - scene.back * plate.cells);
        }

        private int farthestFilled() {
            int farthest = 0;
            for (int i = 0; i < plate.cells; i++) {
                if (lost[i] == 1) {
                    farthest = Math.max(farthest, Math.abs(work[i] - whole[i]));
                }
            }
            return farthest;
        }

        /** BACK and STRAYS are the same by the negative; a source is on the other CELLS there. */
        private int antiAt(int x, int y) {
            Arrays.fill(made, 0, plate.cells, 0);
            Marks sources = scene.sources;
            for (int k = 0; k < sources.count; k++) {
                for (int i = 0; i < plate.cells; i++) {
                    made[i] -= sources.counts[k];
                }
                plate.addShifted(made, plate.hole, -sources.x[k], -sources.y[k],
                    2 * sources.counts[k]);
            }
            clearLost(made);
            return plate.weighed(made, x, y);
        }

        /** SHOTS, into work: how many are counted. */
        private int shoot(int n, int seed, int numbers) {
            Arrays.fill(work, 0, plate.cells, 0);
            if (numbers <= 0) {
                return 0;
            }
            long x = seed;
            int hits = 0;
            for (int shot = 0; shot < n; shot++) {
                x = 48271L * x % 2147483647L;
                int place = placeOfNumber((int) (x % numbers));
                if (lost[place] == 0) {
                    work[place]++;
                    hits++;
                }
            }
            return hits;
        }

        private int placeOfNumber(int number) {
            int rest = number;
            int place = 0;
            while (place < plate.cells - 1 && rest >= whole[place]) {
                rest -= whole[place];
                place++;
            }
            return place;
        }

        private int figureOfShots(int what) {
            plate.decodeAll(work, made);
            return figureOfGreatest(made, what);
        }

        /** Of each CELL that is not LOST: the ERROR without what it gives to all places. */
        private void seekWorst() {
            if (isWorstKnown) {
                return;
            }
            isWorstKnown = true;
            decode();
            worstPlace = NONE;
            worstError = 0;
            int light = lightSeen();
            for (int i = 0; i < plate.cells; i++) {
                if (lost[i] == 0) {
                    System.arraycopy(decoded, 0, made, 0, plate.cells);
                    plate.addMirrored(made, plate.weight, i, -shadow[i]);
                    int error = errorOf(made, light - (shadow[i] - scene.back));
                    if (worstPlace == NONE || error > worstError) {
                        worstPlace = i;
                        worstError = error;
                    }
                }
            }
        }
    }

    /** THE PICTURE; it is none as long as it is 0 WIDE. */
    private static final class Picture {
        private final int[] row = new int[MOST_CELLS];
        private int wide = 0;
        private int high = 0;
        private int laidPlace = 0;
        private long laidSum = 0;

        private void clear() {
            wide = 0;
            high = 0;
        }

        private boolean fits(Plate p) {
            return p.wide == wide && p.high == high;
        }

        private void take(Camera camera) {
            wide = camera.plate.wide;
            high = camera.plate.high;
            System.arraycopy(camera.shadow, 0, row, 0, camera.plate.cells);
        }

        /** MATCH with a camera's shadows. */
        private void lay(Camera camera) {
            Plate p = camera.plate;
            laidPlace = 0;
            laidSum = sumAt(camera, 0, 0);
            for (int i = 1; i < p.cells; i++) {
                long sum = sumAt(camera, p.xOf(i), p.yOf(i));
                if (sum > laidSum) {
                    laidPlace = i;
                    laidSum = sum;
                }
            }
        }

        private long sumAt(Camera camera, int s, int t) {
            Plate p = camera.plate;
            long sum = 0;
            int i = 0;
            for (int y = 0; y < p.high; y++) {
                int from = (y + t) % p.high * p.wide;
                for (int x = 0; x < p.wide; x++) {
                    sum += (long) row[i] * camera.shadow[from + (x + s) % p.wide];
                    i++;
                }
            }
            return sum;
        }
    }
}
