import java.io.IOException;
import java.nio.file.Files;
import java.nio.file.Path;
import java.util.HashSet;
import java.util.LinkedHashMap;
import java.util.List;
import java.util.Map;
import java.util.Set;

/** The document's sentences, by its sections: which of them the tests name, and which they leave out. */
final class Document {
    private static final String OPENING = "What it is";
    private static final String TERMS = "Terms";
    private static final String PROMISE = "Promise ";

    private final Map<String, List<String>> sections = new LinkedHashMap<>();
    private final Set<String> named = new HashSet<>();

    /** Without the document's file the tests run as well, but nothing is said of its sentences. */
    Document(String path) throws IOException {
        if (path == null || !Files.exists(Path.of(path))) {
            return;
        }
        for (String part : Files.readString(Path.of(path)).split("(?m)^## ")) {
            int end = Math.max(part.indexOf('\n'), 0);
            String heading = part.substring(0, end).trim().replaceAll("^(Promise \\d+):.*", "$1");
            sections.put(heading, sentences(part.substring(end)));
        }
    }

    private static List<String> sentences(String text) {
        String flat = text.replaceAll("\\s+", " ").trim().replaceAll("^`[^`]*`: ", "");
        return List.of(flat.split("(?<=\\.) (?=[A-Z])"));
    }

    /** A sentence must stand under its promise, among the terms that the promise uses, or at the start. */
    void name(int promise, String sentence) {
        boolean found = sections.isEmpty();
        for (String heading : List.of(PROMISE + promise, TERMS, OPENING)) {
            if (sections.getOrDefault(heading, List.of()).contains(sentence)) {
                named.add(heading + sentence);
                found = true;
            }
        }
        Due.yes("the document has the sentence", found);
    }

    /** Every sentence of the terms and of the promises must have been named. */
    void close() {
        for (String heading : sections.keySet()) {
            if (heading.equals(TERMS) || heading.startsWith(PROMISE)) {
                for (String sentence : sections.get(heading)) {
                    Due.yes(heading + " has a test of: " + sentence, named.contains(heading + sentence));
                }
            }
        }
    }
}
