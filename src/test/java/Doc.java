import java.io.IOException;
import java.nio.file.Files;
import java.nio.file.Path;
import java.util.Map;
import java.util.TreeMap;
import java.util.regex.Matcher;
import java.util.regex.Pattern;

/** The document's sentences, and which of them a test has quoted: none may be left over. */
final class Doc {
    private static final Map<String, String> SECTIONS = new TreeMap<>();
    private static final Map<String, boolean[]> QUOTED = new TreeMap<>();

    private Doc() {
    }

    static void read() throws IOException {
        String doc = Files.readString(Path.of("../shared/DOC.md"));
        Matcher promise = Pattern.compile("(?s)\n## Promise (\\d+): .*?\n`[^`]*`: (.*?)(?=\n## )").matcher(doc);
        while (promise.find()) {
            put("promise " + promise.group(1), promise.group(2));
        }
        String terms = doc.substring(doc.indexOf("\n## Terms"), doc.indexOf("\nThe constants:"));
        Matcher term = Pattern.compile("(?s)\n(\\d)\\. (.*?)(?=\n\\d\\. |$)").matcher(terms);
        while (term.find()) {
            put("term " + term.group(1), term.group(2));
        }
        Matcher use = Pattern.compile("An object is used for .*\n").matcher(doc);
        while (use.find()) {
            put("use", use.group());
        }
        Told.due("promises and terms found", SECTIONS.size(), 35 + 6 + 1);
    }

    private static void put(String name, String text) {
        String plain = plain(text.replace("```text", "").replace("```", ""));
        SECTIONS.put(name, plain);
        QUOTED.put(name, new boolean[plain.length()]);
    }

    private static String plain(String text) {
        return text.replaceAll("\\s+", " ").trim();
    }

    /** What comes next tests these words of a promise. */
    static void promise(int number, String... words) {
        quote("promise " + number, words);
    }

    /** What comes next tests these words of a term. */
    static void term(int number, String... words) {
        quote("term " + number, words);
    }

    static void use(String... words) {
        quote("use", words);
    }

    private static void quote(String section, String... words) {
        Told.about(section + ": " + words[0]);
        String text = SECTIONS.getOrDefault(section, "");
        for (String quoted : words) {
            int at = text.indexOf(quoted);
            Told.due("the document has '" + quoted + "'", at >= 0, true);
            for (int i = 0; at >= 0 && i < quoted.length(); i++) {
                QUOTED.get(section)[at + i] = true;
            }
        }
    }

    /** Every letter and digit of the promises and terms stands in some quoted words. */
    static void allQuoted() {
        Told.about("sentences without a test");
        for (Map.Entry<String, String> section : SECTIONS.entrySet()) {
            StringBuilder left = new StringBuilder();
            for (int i = 0; i < section.getValue().length(); i++) {
                char sign = section.getValue().charAt(i);
                left.append(QUOTED.get(section.getKey())[i] ? ' ' : sign);
            }
            String words = plain(left.toString().replaceAll("[^A-Za-z0-9 ]", " "));
            Told.due(section.getKey() + ", left over '" + words + "'", words.isEmpty(), true);
        }
    }
}
