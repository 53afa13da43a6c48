import java.io.IOException;
import java.nio.file.Files;
import java.nio.file.Path;
import java.util.ArrayList;
import java.util.BitSet;
import java.util.List;
import java.util.Map;
import java.util.TreeMap;
import java.util.regex.Matcher;
import java.util.regex.Pattern;
import java.util.stream.Stream;

/**
 * Whether each sentence of the document's Terms and promises is named by a test, as the words of a
 * says(where, words), and whether each that is named stands there.
 */
public final class SentencesTest {
    private static final int PROMISES = 26;
    private static final Pattern SAYS =
        Pattern.compile("\\bdue\\.says\\(\\s*\"([^\"]+)\",\\s*((?:\"[^\"]*\"\\s*\\+?\\s*)+)\\)");
    private static final Pattern TEXT = Pattern.compile("\"([^\"]*)\"");
    private static final Due due = new Due("SentencesTest");

    /** The words of one part of the document, and which of them are named. */
    private static final class Part {
        final String words;
        final BitSet named = new BitSet();

        Part(String words) {
            this.words = words;
        }

        boolean name(String sentence) {
            int found = 0;
            for (int at = words.indexOf(sentence); at >= 0; at = words.indexOf(sentence, at + 1)) {
                named.set(at, at + sentence.length());
                found++;
            }
            return found > 0;
        }

        String rest() {
            StringBuilder left = new StringBuilder();
            for (int i = 0; i < words.length(); i++) {
                left.append(named.get(i) ? ' ' : words.charAt(i));
            }
            return left.toString().replaceAll("\\s+", " ").trim();
        }
    }

    public static void main(String[] args) throws IOException {
        Path document = Path.of(args[0], "..", "shared", "DOC.md");
        if (!Files.exists(document)) {
            System.out.println("SentencesTest: no " + document + ", so the sentences are not looked for");
            return;
        }
        Map<String, Part> parts = partsOf(Files.readString(document));
        for (String[] said : sentencesOf(Path.of(args[0], "src", "test", "java"))) {
            Part part = parts.get(said[0]);
            due.holds(said[0] + ": " + said[1] + " stands in the document", part != null && part.name(said[1]));
        }
        for (Map.Entry<String, Part> part : parts.entrySet()) {
            due.is(part.getKey() + ": letters that no test names (" + part.getValue().rest() + ")",
                part.getValue().rest().length(), 0);
        }
        due.end();
    }

    /** Headings, signatures and the lines on how the interface is parted are no sentences to test. */
    private static Map<String, Part> partsOf(String document) {
        Map<String, Part> parts = new TreeMap<>();
        String terms = between(document, "## Terms", "## Promise 1:");
        terms = terms.replace("```text", " ").replace("```", " ").replaceAll("=+ \\d", " ");
        terms = terms.replaceAll("Ahead of the calls [^:]*: ---- \\w+\\.", " ");
        parts.put("Terms", new Part(plain(terms)));
        for (int k = 1; k <= PROMISES; k++) {
            String next = k == PROMISES ? "## Not promised" : "## Promise " + (k + 1) + ":";
            String promise = between(document, "## Promise " + k + ":", next);
            parts.put("Promise " + k, new Part(plain(promise.replaceFirst("(?s)^.*?`[^`]*`:", ""))));
        }
        return parts;
    }

    private static String between(String text, String from, String to) {
        int begin = text.indexOf(from);
        int end = text.indexOf(to);
        due.holds("the document has " + from + " and then " + to, begin >= 0 && end > begin);
        return begin >= 0 && end > begin ? text.substring(begin + from.length(), end) : "";
    }

    private static String plain(String text) {
        return text.replaceAll("\\s+", " ").trim();
    }

    private static List<String[]> sentencesOf(Path tests) throws IOException {
        List<String[]> found = new ArrayList<>();
        try (Stream<Path> files = Files.list(tests)) {
            for (Path file : files.filter(f -> f.toString().endsWith("Test.java")).sorted().toList()) {
                Matcher says = SAYS.matcher(Files.readString(file));
                while (says.find()) {
                    found.add(new String[] {says.group(1), textOf(says.group(2))});
                }
            }
        }
        due.holds("there are some", !found.isEmpty());
        return found;
    }

    /** Joins the pieces of a text that goes over several lines. */
    private static String textOf(String pieces) {
        StringBuilder text = new StringBuilder();
        Matcher piece = TEXT.matcher(pieces);
        while (piece.find()) {
            text.append(piece.group(1));
        }
        return text.toString();
    }
}
