import java.io.IOException;
import java.lang.reflect.Constructor;
import java.lang.reflect.Field;
import java.lang.reflect.Method;
import java.lang.reflect.Modifier;
import java.nio.file.Files;
import java.nio.file.Path;
import java.util.Random;
import java.util.Set;
import java.util.TreeSet;
import java.util.regex.Matcher;
import java.util.regex.Pattern;

/** The public face, the rules of LANGUAGE.md that a test can see, and rule 7: no call throws. */
public final class FaceTest {
    private static final Path SOURCE = Path.of("src/main/java/MaskBench.java");
    private static final String FACE = "status() feed(int,int,int,int,int) load(int) fault(int) "
        + "many(int) plate(int,int) cell(int,int,int,int) differences(int,int) "
        + "window(int,int,int,int,int) alike(int,int) root(int,int) thing(int,int,int) "
        + "add(int,int,int,int) drop(int,int) lose(int,int) heal(int) light(int) use(int) "
        + "slide(int,int) undo() at(int,int,int) all(int) peak(int) found(int,int) "
        + "frames(int,int,int,int) filled(int) coarse(int,int) anti(int,int) keep() match(int) "
        + "minus(int,int) shots(int,int,int) best(int) worst(int) print() out(int)";

    public static void main(String[] args) throws IOException {
        face();
        nested();
        words();
        methodLengths();
        anyArguments();
        Bench.end();
    }

    private static String signature(Method m) {
        StringBuilder s = new StringBuilder(m.getName()).append('(');
        for (Class<?> type : m.getParameterTypes()) {
            s.append(s.charAt(s.length() - 1) == '(' ? "" : ",").append(type.getName());
        }
        return s.append(')').toString();
    }

    private static void face() {
        Set<String> open = new TreeSet<>();
        Set<String> names = new TreeSet<>();
        Class<?> c = MaskBench.class;
        for (Method m : c.getDeclaredMethods()) {
            if (!Modifier.isPrivate(m.getModifiers())) {
                open.add(signature(m));
                names.add(m.getName());
                String type = m.getName().equals("match") ? "long" : "int";
                Bench.same(m.getReturnType().getName(), type, "the type of " + m.getName());
                Bench.same(Modifier.isPublic(m.getModifiers()), true, m.getName() + " is public");
                Bench.same(Modifier.isStatic(m.getModifiers()), false, m.getName() + " is static");
            }
        }
        Bench.same(open, new TreeSet<>(Set.of(FACE.split(" "))), "the face");
        for (Method m : c.getDeclaredMethods()) {
            if (Modifier.isPrivate(m.getModifiers()) && names.contains(m.getName())) {
                Bench.fail("a private method is named " + m.getName());
            }
        }
        for (Field f : c.getDeclaredFields()) {
            boolean none = f.getName().equals("NONE");
            Bench.same(Modifier.isPublic(f.getModifiers()), none, f.getName() + " is public");
            Bench.same(Modifier.isPrivate(f.getModifiers()), !none, f.getName() + " is private");
        }
        Bench.same(Modifier.isFinal(c.getModifiers()), true, "the class is final");
        Bench.same(c.getDeclaredConstructors().length, 1, "constructors");
        for (Constructor<?> made : c.getDeclaredConstructors()) {
            Bench.same(made.getParameterCount(), 0, "the constructor's parameters");
        }
    }

    private static void nested() {
        Class<?>[] all = MaskBench.class.getDeclaredClasses();
        if (all.length > 11) {
            Bench.fail("more than twelve classes");
        }
        checkFields(MaskBench.class);
        for (Class<?> c : all) {
            Bench.same(Modifier.isStatic(c.getModifiers()), true, c.getName() + " is static");
            checkFields(c);
            for (Method m : c.getDeclaredMethods()) {
                if ((" " + FACE).contains(" " + m.getName() + "(")) {
                    Bench.fail(c.getName() + " has a method named " + m.getName());
                }
            }
        }
    }

    private static void checkFields(Class<?> c) {
        int own = 0;
        for (Field f : c.getDeclaredFields()) {
            if (Modifier.isStatic(f.getModifiers())) {
                Bench.same(Modifier.isFinal(f.getModifiers()), true, f.getName() + " is final");
            } else {
                own++;
            }
        }
        if (own > 20) {
            Bench.fail(c.getName() + " has " + own + " fields");
        }
        for (Method m : c.getDeclaredMethods()) {
            if (m.getParameterCount() > 7) {
                Bench.fail(m.getName() + " has more than seven parameters");
            }
        }
    }

    private static String code() throws IOException {
        return Files.readString(SOURCE).replaceAll("(?s)/\\*.*?\\*/", "").replaceAll("//[^\n]*", "");
    }

    private static void words() throws IOException {
        String code = code();
        for (char c : Files.readString(SOURCE).toCharArray()) {
            if (c > 127) {
                Bench.fail("a sign above 127 in the source");
            }
        }
        Matcher m = Pattern.compile("\\b(throw|throws|try|catch|synchronized|assert|package|native|"
            + "volatile|transient|Thread|Object|hashCode|Exact|record|yield|var|double|float|"
            + "static\\s*\\{|goto|new\\s+int\\[\\]\\s*\\{)\\b|->|::").matcher(code);
        while (m.find()) {
            Bench.fail("the source has '" + m.group() + "'");
        }
        m = Pattern.compile("import\\s+([^;]*);").matcher(code);
        while (m.find()) {
            Bench.same(m.group(1), "java.util.Arrays", "an import");
        }
        m = Pattern.compile("\\b(Math|Arrays|System|String|Integer|Long)\\.(\\w+)").matcher(code);
        Set<String> used = Set.of("Math.floorMod", "Math.floorDiv", "Math.min", "Math.max",
            "Math.abs", "Arrays.fill", "System.arraycopy");
        while (m.find()) {
            if (!used.contains(m.group())) {
                Bench.fail("the library's " + m.group());
            }
        }
    }

    private static void methodLengths() throws IOException {
        String[] lines = Files.readString(SOURCE).split("\n");
        for (int i = 0; i < lines.length; i++) {
            String line = lines[i];
            if (line.length() > 100) {
                Bench.fail("line " + (i + 1) + " is too long");
            }
            if (line.matches(" {4,8}(private|public)[^=;]*\\{") && !line.contains(" class ")) {
                String close = line.replaceAll("\\S.*", "") + "}";
                int end = i;
                while (end < lines.length && !lines[end].equals(close)) {
                    end++;
                }
                if (end - i > 60) {
                    Bench.fail("the method in line " + (i + 1) + " is " + (end - i) + " lines long");
                }
            }
        }
    }

    private static final String[] TEXTS = {"", "plate a row 3;", "plate a bits #1;lost 0 0;",
        "plate a square 17;source 1 1 999;lost 1 1;stray 5 5 999;back 99;",
        "plate a bits #111;plate b neg a;plate c both b a;source 1 1 1;use c;", "plate a set 47;"};
    private static final int[] EDGES = {Integer.MIN_VALUE, Integer.MAX_VALUE, -2, -1, 0, 1, 2, 3, 5,
        8, 12, 16, 17, 46, 47, 99, 100, 288, 289, 499, 500, 799, 800, 801, 65536, 65537};

    /** Rule 7: every call with edges and any numbers, in many states; it would throw out of here. */
    private static void anyArguments() {
        Random random = new Random(7);
        Method[] all = MaskBench.class.getDeclaredMethods();
        java.util.Arrays.sort(all, (a, b) -> a.getName().compareTo(b.getName()));
        for (int run = 0; run < 1200; run++) {
            Bench b = new Bench();
            for (int calls = 0; calls < 180; calls++) {
                if (random.nextInt(60) == 0) {
                    b.load(TEXTS[random.nextInt(TEXTS.length)]);
                }
                Method m = all[random.nextInt(all.length)];
                if (Modifier.isPublic(m.getModifiers())) {
                    int[] args = new int[m.getParameterCount()];
                    for (int i = 0; i < args.length; i++) {
                        args[i] = random.nextInt(20) == 0 ? random.nextInt()
                            : EDGES[random.nextInt(random.nextBoolean() ? 8 : EDGES.length)];
                    }
                    b.call(m.getName(), args);
                }
            }
        }
    }
}
