import java.io.IOException;
import java.nio.file.Files;
import java.nio.file.Path;
import java.util.LinkedHashMap;
import java.util.List;
import java.util.Map;
import java.util.TreeSet;

/** The words of ../shared/DOC.md by sections, and whether every word of these is under a test. */
final class Document {
    private static final Path FILE = Path.of("../shared/DOC.md");
    private final Map<String, String> sections = new LinkedHashMap<>();
    private final Map<String, boolean[]> tested = new LinkedHashMap<>();

    Document() throws IOException {
        String all = Files.readString(FILE);
        String terms = part(all, "## Terms", "## Promise 1:");
        keep("Terms 1", part(terms, "", "==== 2."));
        keep("Terms 2", part(terms, "==== 2.", "==== 3."));
        keep("Terms 3", part(terms, "==== 3.", "The constants:"));
        keep("Constants", part(terms, "The constants:", ""));
        for (int i = 1; i <= 47; i++) {
            String promise = part(all, "## Promise " + i + ":", i < 47 ? "## Promise " + (i + 1) + ":" : "## Not promised");
            keep("Promise " + i, part(promise, "`: ", ""));
        }
    }

    private static String part(String text, String from, String to) {
        int start = text.indexOf(from);
        int end = to.isEmpty() ? text.length() : text.indexOf(to, Math.max(start, 0));
        if (start < 0 || end < 0) {
            throw new IllegalStateException("the document has no \"" + from + "\" .. \"" + to + "\"");
        }
        return text.substring(start + from.length(), end);
    }

    private void keep(String name, String text) {
        String words = text.replace("```text", " ").replace("```", " ").replaceAll("\\s+", " ");
        sections.put(name, words);
        tested.put(name, new boolean[words.length()]);
    }

    /** Tells of sentences that are not the document's, and of words of the document in no sentence. */
    void compare(List<String[]> sentences) {
        for (String[] sentence : sentences) {
            String words = sections.getOrDefault(sentence[0], "");
            int at = words.indexOf(sentence[1]);
            if (at < 0) {
                Check.fail("not in the document, " + sentence[0] + ": " + sentence[1]);
            }
            for (int i = at; at >= 0 && i < at + sentence[1].length(); i++) {
                tested.get(sentence[0])[i] = true;
            }
        }
        for (String name : sections.keySet()) {
            for (String rest : untested(name)) {
                Check.fail("no test has these words of the document, " + name + ": " + rest);
            }
        }
    }

    private TreeSet<String> untested(String name) {
        StringBuilder left = new StringBuilder();
        String words = sections.get(name);
        for (int i = 0; i < words.length(); i++) {
            left.append(tested.get(name)[i] ? '\n' : words.charAt(i));
        }
        TreeSet<String> rest = new TreeSet<>();
        for (String line : left.toString().split("\n+")) {
            if (line.chars().anyMatch(Character::isLetterOrDigit)) {
                rest.add(line.trim());
            }
        }
        return rest;
    }
}
