import java.io.IOException;
import java.nio.file.Files;
import java.nio.file.Path;
import java.util.regex.Matcher;
import java.util.regex.Pattern;

/** The example in README.md answers what is said behind each of its calls. */
public final class ReadmeTest {
    private static final Pattern CALL =
        Pattern.compile("bench\\.(\\w+)\\(([^)]*)\\);(?:\\s*// (-?\\d+).*)?");

    public static void main(String[] args) throws IOException {
        String readme = Files.readString(Path.of("README.md"));
        int from = readme.indexOf("```java");
        int to = readme.indexOf("```", from + 3);
        int answers = 0;
        if (from >= 0 && to > from) {
            answers = follow(readme.substring(from, to).split("\n"));
        }
        Bench.same(answers > 5, true, "README.md tells answers of calls");
        for (String file : new String[] {"DOC.md", "LANGUAGE.md", ".ci/run"}) {
            Bench.same(readme.contains(file), true, "README.md names " + file);
        }
        eachTestIsNamed(readme);
        Bench.end();
    }

    private static int follow(String[] lines) {
        Bench bench = new Bench();
        int answers = 0;
        for (String line : lines) {
            Matcher m = CALL.matcher(line);
            if (m.matches()) {
                String[] told = m.group(2).isEmpty() ? new String[0] : m.group(2).split(",\\s*");
                int[] numbers = new int[told.length];
                for (int i = 0; i < told.length; i++) {
                    numbers[i] = Integer.decode(told[i]);
                }
                long got = bench.call(m.group(1), numbers);
                if (m.group(3) != null) {
                    Bench.same(got, Long.parseLong(m.group(3)), line);
                    answers++;
                }
            }
        }
        return answers;
    }

    private static void eachTestIsNamed(String readme) throws IOException {
        try (var files = Files.list(Path.of("src/test/java"))) {
            for (Path file : files.sorted().toList()) {
                String name = file.getFileName().toString().replace(".java", "");
                Bench.same(readme.contains("`" + name + "`"), true, "README.md names " + name);
            }
        }
    }
}
