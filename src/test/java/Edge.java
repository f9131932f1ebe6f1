import java.io.IOException;
import java.nio.file.Files;
import java.nio.file.Path;
import java.util.LinkedHashMap;
import java.util.Map;
import java.util.regex.Matcher;
import java.util.regex.Pattern;

/** Which sentence of the document a test is of: its words must stand there, and none may be left without a test. */
final class Edge {
    private static final Path DOC = Path.of("../shared/DOC.md");
    /** Sentences that say how the face is laid out or what is free, and so have no edge. */
    private static final String[] WITHOUT_EDGE = {
        "Ahead of the calls `sword`", "Ahead of the calls `judge`", "Ahead of the calls `hour`", "Ahead of the calls `body`",
        "All memory is the class's own"};

    /** A full stop; the dots of 0 .. 9 are none. */
    private static final Pattern STOP = Pattern.compile("(?<=[^ .])\\. ");

    private static Map<String, String> sections = Map.of();
    private static final Map<String, boolean[]> tested = new LinkedHashMap<>();
    private static int askedAtBegin = -1;
    private static String latest = "";

    private Edge() {
    }

    /** Reads the document's sections: Terms, and each promise. */
    static void open() throws IOException {
        sections = new LinkedHashMap<>();
        for (String part : Files.readString(DOC).split("\n## ")) {
            String[] headAndText = part.split("\n", 2);
            String head = headAndText[0].split(":")[0];
            if (head.equals("Terms") || head.equals("What it is") || head.startsWith("Promise")) {
                String text = folded(headAndText[1]);
                sections.put(head, text);
                tested.put(head, new boolean[text.length()]);
            }
        }
    }

    /** From here on answers are about these words of a promise. */
    static void of(int promise, String... words) {
        begin("Promise " + promise, words);
    }

    /** From here on answers are about these words of the terms. */
    static void ofTerms(String... words) {
        begin("Terms", words);
    }

    static void begin(String section, String... words) {
        seen();
        for (String w : words) {
            mark(section, w);
        }
        latest = section + ", \"" + words[0] + "\": ";
        Check.about(latest);
        askedAtBegin = Check.asked();
    }

    private static void mark(String section, String words) {
        String text = sections.getOrDefault(section, "");
        int at = text.indexOf(folded(words));
        Check.due(section + " has \"" + words + "\"", at >= 0 ? 1 : 0, 1);
        for (int i = 0; at >= 0 && i < folded(words).length(); i++) {
            tested.get(section)[at + i] = true;
        }
    }

    private static void seen() {
        if (askedAtBegin >= 0) {
            Check.due(latest + "is it tested", Check.asked() > askedAtBegin ? 1 : 0, 1);
        }
    }

    /** Each sentence of the terms and of the promises must have words that were tested. */
    static void close() {
        seen();
        Check.about("");
        Check.due("terms and promises", sections.size(), 43);
        for (String section : sections.keySet()) {
            if (!section.equals("What it is")) {
                closeSection(section);
            }
        }
    }

    private static void closeSection(String section) {
        String text = sections.get(section);
        int from = 0;
        Matcher stop = STOP.matcher(text);
        while (from < text.length()) {
            int to = stop.find() ? stop.end() : text.length();
            String sentence = text.substring(from, to);
            if (hasEdge(sentence)) {
                Check.due(section + ", tested: " + sentence, countTested(section, from, to) > 0 ? 1 : 0, 1);
            }
            from = to;
        }
    }

    private static boolean hasEdge(String sentence) {
        for (String start : WITHOUT_EDGE) {
            if (sentence.startsWith(start)) {
                return false;
            }
        }
        return sentence.matches("(?s).*[A-Za-z].*");
    }

    private static int countTested(String section, int from, int to) {
        int n = 0;
        for (int i = from; i < to; i++) {
            n += tested.get(section)[i] ? 1 : 0;
        }
        return n;
    }

    private static String folded(String text) {
        return text.replace("```text", " ").replace("```", " ").replaceAll("\\s+", " ").trim();
    }
}
