import java.io.IOException;
import java.nio.file.DirectoryStream;
import java.nio.file.Files;
import java.nio.file.Path;
import java.util.ArrayList;
import java.util.Comparator;
import java.util.List;
import java.util.Map;
import java.util.TreeMap;
import java.util.regex.Matcher;
import java.util.regex.Pattern;

/**
 * The remarks in the Edges tests name a part of the document and quote its sentence: // 7: "NO: it is STRUCK;". Parts are
 * the promises (1 .. 42), the Terms (T0 what stands ahead of them, T1 .. T5) and What it is (W). Each quote stands in its
 * part, and no word of a part is left without a quote: a sentence that has no test is found here.
 */
public final class QuotesTest {
    private static final Pattern QUOTE = Pattern.compile("// (W|T[0-5]|[0-9]+): \"(.*)\"\n");

    public static void main(String[] args) throws IOException {
        Map<String, String> parts = parts(Files.readString(Path.of("../shared/DOC.md")));
        Map<String, List<String>> quotes = quotes();
        for (String part : quotes.keySet()) {
            Due.holds("there is a part " + part, parts.containsKey(part));
        }
        for (Map.Entry<String, String> part : parts.entrySet()) {
            allIsQuoted(part.getKey(), part.getValue(), quotes.getOrDefault(part.getKey(), List.of()));
        }
        Due.end();
    }

    private static void allIsQuoted(String name, String text, List<String> quotes) {
        String left = text;
        List<String> longestFirst = new ArrayList<>(quotes);
        longestFirst.sort(Comparator.comparingInt(String::length).reversed());
        for (String quote : longestFirst) {
            Due.holds("part " + name + " says: " + quote, text.contains(quote));
            left = left.replace(quote, " ~ ");
        }
        Due.holds("part " + name + " has no test for: " + left, !left.matches("(?s).*[A-Za-z0-9].*"));
    }

    private static Map<String, List<String>> quotes() throws IOException {
        Map<String, List<String>> all = new TreeMap<>();
        try (DirectoryStream<Path> files = Files.newDirectoryStream(Path.of("src/test/java"), "Edges*.java")) {
            for (Path file : files) {
                Matcher m = QUOTE.matcher(Files.readString(file));
                while (m.find()) {
                    all.computeIfAbsent(m.group(1), k -> new ArrayList<>()).add(m.group(2));
                }
            }
        }
        return all;
    }

    private static Map<String, String> parts(String doc) {
        Map<String, String> all = new TreeMap<>();
        all.put("W", plain(between(doc, "An object is used", "## The public face")));
        all.put("T0", plain(between(doc, "All numbers are whole", "======== 1")));
        for (int k = 1; k <= 5; k++) {
            String end = k < 5 ? "======== " + (k + 1) : "Ahead of the calls";
            all.put("T" + k, plain(between(doc, "======== " + k, end).replace("======== " + k, "")));
        }
        for (int k = 1; k <= 42; k++) {
            String section = between(doc, "## Promise " + k + ":", k < 42 ? "## Promise " + (k + 1) + ":" : "## Not promised");
            all.put("" + k, plain(section.replaceFirst("(?s)^## .*?\n+`[^`]*`: ", "")));
        }
        return all;
    }

    private static String between(String doc, String start, String end) {
        int from = doc.indexOf(start);
        int to = doc.indexOf(end);
        Due.holds("the document has " + start + " ahead of " + end, from >= 0 && to > from);
        return from >= 0 && to > from ? doc.substring(from, to) : "";
    }

    private static String plain(String text) {
        return text.replaceAll("```[a-z]*", " ").replaceAll("\\s+", " ").strip();
    }
}
