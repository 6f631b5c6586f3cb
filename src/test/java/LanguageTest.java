import java.nio.file.Files;
import java.nio.file.Path;
import java.util.ArrayList;
import java.util.List;
import java.util.regex.Matcher;
import java.util.regex.Pattern;

/** What of ../shared/LANGUAGE.md can be seen in the text of the program. */
public final class LanguageTest {
    private static final Due DUE = new Due("LanguageTest");
    private static final String[] FORBIDDEN = {
        "\\bthrows?\\b", "\\btry\\b", "\\bcatch\\b", "\\bfinally\\b", "\\bsynchronized\\b", "\\bassert\\b", "->", "::",
        "\\bpackage\\b", "\\bprotected\\b", "\\bvolatile\\b", "\\bnative\\b", "\\w+Exact\\b", "\\bhashCode\\b",
        "\\btoString\\b", "\\bThread\\b", "\\bRandom\\b", "\\bnanoTime\\b", "\\bcurrentTimeMillis\\b", "\\bgetClass\\b",
        "\\bstatic\\s*\\{", "\\bObject\\b", "\\bexit\\b", "\\bMap\\b", "\\bSet\\b", "\\bvar\\b", "@"};
    private static final String[] LIBRARY = {"Arrays.fill", "Arrays.copyOf", "Arrays.copyOfRange", "System.arraycopy",
        "Math.abs", "Math.min", "Math.max", "Integer.bitCount", "Integer.compare", "Long.MIN_VALUE"};
    private static final int MOST_LINES = 60;

    public static void main(String[] args) throws Exception {
        String text = Files.readString(Path.of("src/main/java/DifferRings.java"));
        DUE.holds("signs are 1 to 127", text.chars().allMatch(c -> c > 0 && c < 128));
        String code = withoutComments(text);
        for (String word : FORBIDDEN) {
            DUE.holds("no " + word, !Pattern.compile(word).matcher(code).find());
        }
        imports(code);
        libraryCalls(code);
        endlessLoops(code);
        indexesLookedAt(code);
        methodLengths(code);
        DUE.end();
    }

    private static String withoutComments(String text) {
        return text.replaceAll("(?s)/\\*.*?\\*/", "").replaceAll("//[^\\n]*", "");
    }

    private static void imports(String code) {
        Matcher m = Pattern.compile("import\\s+([\\w.*]+)").matcher(code);
        while (m.find()) {
            DUE.holds("import of " + m.group(1), List.of("java.util.Arrays", "java.util.ArrayList", "java.util.List")
                .contains(m.group(1)));
        }
    }

    private static void libraryCalls(String code) {
        Matcher m = Pattern.compile("\\b(Arrays|System|Math|Integer|Long|Character|Byte|Short)\\.\\w+").matcher(code);
        while (m.find()) {
            DUE.holds("the library has no " + m.group(), List.of(LIBRARY).contains(m.group()));
        }
    }

    private static void endlessLoops(String code) {
        DUE.holds("no while", !Pattern.compile("\\bwhile\\b").matcher(code).find());
        Matcher m = Pattern.compile("\\bfor\\s*\\(([^;]*);([^;]*);").matcher(code);
        while (m.find()) {
            DUE.holds("for has a bound: " + m.group(), Pattern.compile("[<>]").matcher(m.group(2)).find());
        }
    }

    /** What stands in an array is no index of another one before it has been looked at. */
    private static void indexesLookedAt(String code) {
        Matcher m = Pattern.compile("\\w\\[[^\\[\\]]*\\[.*").matcher(code);
        DUE.holds("no index out of an array: " + (m.find() ? m.group() : ""), !m.reset().find());
    }

    /** A method begins behind four or eight blanks and ends with a brace behind as many. */
    private static void methodLengths(String code) {
        List<String> lines = new ArrayList<>(List.of(code.split("\\n")));
        Pattern head = Pattern.compile("^( {4}| {8})(?!.*\\bclass\\b)\\w.*\\)\\s*\\{$");
        for (int at = 0; at < lines.size(); at++) {
            Matcher m = head.matcher(lines.get(at));
            if (m.find() && !lines.get(at).trim().matches("(if|for|switch|else).*")) {
                int end = lines.subList(at, lines.size()).indexOf(m.group(1) + "}");
                DUE.holds("short: " + lines.get(at).trim(), end > 0 && end <= MOST_LINES);
            }
        }
    }
}
