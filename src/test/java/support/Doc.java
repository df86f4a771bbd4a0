import java.nio.charset.StandardCharsets;
import java.nio.file.Files;
import java.nio.file.Path;
import java.util.HashMap;
import java.util.Map;
import java.util.TreeMap;
import java.util.regex.Matcher;
import java.util.regex.Pattern;

/**
 * The document's own sentences. A test says which one it holds the class to; a sentence that no test says, a test that
 * says what the document does not, and one that then checks nothing, are all wrong.
 */
final class Doc {
    private static final Map<String, String> PARTS = new TreeMap<>();
    private static final Map<String, boolean[]> SAID = new HashMap<>();
    private static String face = "";
    private static String part;
    private static String sentence;
    private static int checksBefore;

    private Doc() {
    }

    static void open() throws Exception {
        Path file = Path.of(System.getProperty("dinghy.doc", "../shared/DOC.md"));
        String text = Files.readString(file, StandardCharsets.UTF_8);
        face = between(text, "```java", "```");
        String terms = between(text, "## Terms", "Ahead of the calls").replace("```text", " ").replace("```", " ");
        String[] cut = terms.split("========");
        for (int i = 0; i < cut.length; i++) {
            keep("terms " + i, cut[i].trim().replaceFirst("^" + i + " ", ""));
        }
        Matcher m = Pattern.compile("(?s)## Promise (\\d+): [^\\n]*\\n(.*?)(?=\\n## )").matcher(text);
        while (m.find()) {
            // the calls' heads are the face's
            keep("promise " + m.group(1), m.group(2).trim().replaceFirst("^`[^`]*`: ", ""));
        }
        Check.due("parts of the document", PARTS.size(), 5 + 31);
    }

    private static String between(String text, String from, String to) {
        int start = text.indexOf(from) + from.length();
        return text.substring(start, text.indexOf(to, start));
    }

    private static void keep(String name, String text) {
        String flat = text.replaceAll("\\s+", " ").trim();
        PARTS.put(name, flat);
        SAID.put(name, new boolean[flat.length()]);
    }

    static String face() {
        return face;
    }

    /** What is said from now on stands in this part of "Terms": 0 ahead of the numbered ones, 1 to 4. */
    static void terms(int n) {
        part = "terms " + n;
    }

    static void promise(int n) {
        part = "promise " + n;
    }

    /** The checks from here on hold the class to this sentence. */
    static void says(String quote) {
        close();
        sentence = quote;
        Check.about(part + ", \"" + quote + "\": ");
        String text = PARTS.getOrDefault(part, "");
        int at = text.indexOf(quote);
        Check.holds("the document says so", at >= 0);
        if (at >= 0) {
            java.util.Arrays.fill(SAID.get(part), at, at + quote.length(), true);
        }
        checksBefore = Check.made();
    }

    private static void close() {
        if (sentence != null) {
            Check.holds("it is tested", Check.made() > checksBefore);
        }
        sentence = null;
        Check.about("");
    }

    /** All sentences are through: none may be left over. */
    static void end() {
        close();
        for (Map.Entry<String, String> e : PARTS.entrySet()) {
            boolean[] said = SAID.get(e.getKey());
            StringBuilder left = new StringBuilder();
            for (int i = 0; i < said.length; i++) {
                left.append(said[i] ? '\n' : e.getValue().charAt(i));
            }
            for (String unsaid : left.toString().split("\n+")) {
                Check.holds(e.getKey() + ": no test says \"" + unsaid + "\"", !unsaid.matches(".*[A-Za-z0-9].*"));
            }
        }
    }
}
