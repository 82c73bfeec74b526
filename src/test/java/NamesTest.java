import java.nio.file.DirectoryStream;
import java.nio.file.Files;
import java.nio.file.Path;
import java.util.Map;
import java.util.TreeMap;
import java.util.regex.Matcher;
import java.util.regex.Pattern;

/** Each promise and each Term of the document has tests whose comments name it, and names of their own. */
public final class NamesTest {
    private static final Checks C = new Checks();
    private static final Pattern TEST = Pattern.compile(
        "/\\*\\* (Promise|Term) (\\w+): [^\\n]*\\*/\\n    private static void (\\w+)\\(\\)");
    private static final String[] TERMS = {"I", "II", "III", "IV", "V", "VI", "VII", "VIII", "IX", "X"};

    public static void main(String[] args) throws Exception {
        Map<String, Integer> tests = new TreeMap<>();
        try (DirectoryStream<Path> files = Files.newDirectoryStream(Path.of("src/test/java"), "*EdgesTest.java")) {
            for (Path file : files) {
                gather(Files.readString(file), file.getFileName().toString(), tests);
            }
        }
        for (int promise = 1; promise <= 47; promise++) {
            C.is("promise " + promise + " has tests", tests.getOrDefault("promise" + promise, 0) > 0, true);
        }
        for (int term = 1; term <= 10; term++) {
            C.is("Term " + TERMS[term - 1] + " has tests", tests.getOrDefault("term" + term, 0) > 0, true);
        }
        C.finish();
    }

    private static void gather(String text, String file, Map<String, Integer> tests) {
        int named = 0;
        Matcher m = TEST.matcher(text);
        while (m.find()) {
            String key = m.group(1).equals("Promise") ? "promise" + m.group(2) : "term" + number(m.group(2));
            C.is(file + ": " + m.group(3) + " is named by " + m.group(1) + " " + m.group(2),
                m.group(3).matches(key + "[A-Z]\\w*"), true);
            tests.merge(key, 1, Integer::sum);
            named++;
        }
        Matcher all = Pattern.compile("private static void (promise|term)\\w*\\(\\)").matcher(text);
        int there = 0;
        while (all.find()) {
            there++;
        }
        C.is(file + ": tests whose comment names a promise or a Term", named, there);
    }

    private static int number(String term) {
        for (int i = 0; i < TERMS.length; i++) {
            if (TERMS[i].equals(term)) {
                return i + 1;
            }
        }
        return 0;
    }
}
