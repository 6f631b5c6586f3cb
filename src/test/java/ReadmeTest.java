import java.nio.file.Files;
import java.nio.file.Path;
import java.util.regex.Matcher;
import java.util.regex.Pattern;

/** README.md's example: each call that stands there with its answer gives that answer. */
public final class ReadmeTest {
    private static final Due DUE = new Due("ReadmeTest");

    public static void main(String[] args) throws Exception {
        String readme = Files.readString(Path.of("README.md"));
        String text = found(readme, "String text = \"([^\"]*)\";");
        String example = found(readme, "(?s)```java\\n(.*?)```").replace("text.length()", "" + text.length());
        DifferRings x = new DifferRings();
        for (String line : example.split("\\n")) {
            if (line.startsWith("for (int i = 0;")) {
                for (int i = 0; i < text.length(); i++) {
                    x.put(0, i, text.charAt(i));
                }
            } else if (line.startsWith("x.")) {
                ask(x, line);
            }
        }
        DUE.end();
    }

    private static String found(String all, String pattern) {
        Matcher m = Pattern.compile(pattern).matcher(all);
        if (!m.find()) {
            throw new IllegalStateException("README.md has no " + pattern);
        }
        return m.group(1);
    }

    private static void ask(DifferRings x, String line) {
        Matcher m = Pattern.compile("x\\.(\\w+)\\(([-\\d, L]*)\\);\\s*// (-?\\d+):.*").matcher(line);
        DUE.holds("a call and its answer: " + line, m.matches());
        String[] told = m.group(2).replace("L", "").split(", ");
        long[] v = new long[5];
        for (int k = 0; k < told.length && !told[k].isEmpty(); k++) {
            v[k] = Long.parseLong(told[k]);
        }
        DUE.is(line, Calls.ofClass(x, Calls.numberOf(m.group(1)), v), Long.parseLong(m.group(3)));
    }
}
