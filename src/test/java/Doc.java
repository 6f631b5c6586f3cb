import java.io.IOException;
import java.nio.file.Files;
import java.nio.file.Path;
import java.util.Arrays;
import java.util.LinkedHashMap;
import java.util.Map;
import java.util.regex.Matcher;
import java.util.regex.Pattern;

/** The document's own words, and which of them some test bears as its name. */
final class Doc {
    private final Map<String, String> texts = new LinkedHashMap<>();
    private final Map<String, boolean[]> named = new LinkedHashMap<>();

    Doc(Path file) throws IOException {
        String all = Files.readString(file);
        add("Use", between(all, "An object is used", "## The public face"));
        String[] terms = between(all, "REFUSALS:", "Ahead of the calls `ring`").split("==== \\d ");
        for (int part = 0; part < terms.length; part++) {
            add(part == 0 ? "Terms" : "Part " + part, terms[part]);
        }
        Matcher promise = Pattern.compile("## (Promise \\d+): .*\\n\\n`[^`]*`: (.*)\\n").matcher(all);
        while (promise.find()) {
            add(promise.group(1), promise.group(2));
        }
    }

    private static String between(String all, String first, String behind) {
        int from = all.indexOf(first);
        int to = all.indexOf(behind);
        if (from < 0 || to < from) {
            throw new IllegalStateException("the document has another form: " + first);
        }
        return all.substring(from, to);
    }

    private void add(String section, String text) {
        String plain = text.replace("```text", "").replace("```", "").replaceAll("\\s+", " ").trim();
        texts.put(section, plain);
        named.put(section, new boolean[plain.length()]);
    }

    int sections() {
        return texts.size();
    }

    /** Whether a section says this at a place that no test has named yet; that place is named then. */
    boolean name(String section, String words) {
        String text = texts.getOrDefault(section, "");
        for (int at = text.indexOf(words); at >= 0; at = text.indexOf(words, at + 1)) {
            if (!named.get(section)[at]) {
                Arrays.fill(named.get(section), at, at + words.length(), true);
                return true;
            }
        }
        return false;
    }

    /** What of all sections no test has named: a row for each that has words left. */
    String unnamed() {
        StringBuilder left = new StringBuilder();
        for (Map.Entry<String, String> section : texts.entrySet()) {
            StringBuilder words = new StringBuilder();
            for (int at = 0; at < section.getValue().length(); at++) {
                words.append(named.get(section.getKey())[at] ? ' ' : section.getValue().charAt(at));
            }
            if (Pattern.compile("[A-Za-z0-9]").matcher(words).find()) {
                left.append(section.getKey()).append(": ").append(words.toString().replaceAll("\\s+", " ")).append('\n');
            }
        }
        return left.toString();
    }
}
