import java.io.IOException;
import java.nio.file.Files;
import java.nio.file.Path;
import java.util.ArrayList;
import java.util.List;
import java.util.regex.Matcher;
import java.util.regex.Pattern;
import java.util.stream.Stream;

/** No sentence of the document is left without a test that quotes it by Bench.says(). */
public final class SentenceTest {
    private static final Path TESTS = Path.of("src/test/java");
    /** Words between the promises that promise nothing. */
    private static final String FILLER = "```text|```|==== [234]\\.|The constants:"
        + "|Ahead of the calls [^:]*: ---- (plates|the scene|shadows|told)\\."
        + "|## Promise \\d+: (A new object|\\w+)|`(int|long)? ?\\w+\\([^)]*\\)`:";

    public static void main(String[] args) throws IOException {
        String doc = Bench.readDoc();
        int from = doc.indexOf("A BENCH is told");
        int to = doc.indexOf("## Not promised");
        if (from >= 0 && to > from) {
            look(doc.substring(from, to));
        }
        Bench.end();
    }

    private static void look(String promised) throws IOException {
        boolean[] tested = new boolean[promised.length()];
        for (String words : quotes()) {
            mark(tested, promised, words);
        }
        Matcher filler = Pattern.compile(FILLER).matcher(promised);
        while (filler.find()) {
            java.util.Arrays.fill(tested, filler.start(), filler.end(), true);
        }
        StringBuilder rest = new StringBuilder();
        for (int i = 0; i < tested.length; i++) {
            rest.append(tested[i] ? '\n' : promised.charAt(i));
        }
        for (String words : rest.toString().split("\n+")) {
            if (words.matches(".*(\\w{3}|\\d).*")) {
                Bench.fail("no test is for: " + words);
            }
        }
    }

    private static void mark(boolean[] tested, String promised, String words) {
        int at = promised.indexOf(words);
        while (at >= 0) {
            java.util.Arrays.fill(tested, at, at + words.length(), true);
            at = promised.indexOf(words, at + 1);
        }
    }

    private static List<String> quotes() throws IOException {
        List<String> all = new ArrayList<>();
        Pattern says = Pattern.compile("Bench\\.says\\(((\\s*\\+?\\s*\"[^\"]*\")+)\\)");
        try (Stream<Path> files = Files.list(TESTS)) {
            for (Path file : files.sorted().toList()) {
                Matcher m = says.matcher(Files.readString(file));
                while (m.find()) {
                    all.add(m.group(1).replaceAll("\"\\s*\\+\\s*\"", "").trim().replace("\"", ""));
                }
            }
        }
        return all;
    }
}
