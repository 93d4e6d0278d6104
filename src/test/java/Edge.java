import java.io.IOException;
import java.nio.file.Files;
import java.nio.file.Path;
import java.util.LinkedHashMap;
import java.util.Map;

/**
 * A test of one sentence of the document that names a boundary case. The sentence is quoted, so that a reader finds
 * it, and so that a quote that no longer stands in its section of the document is told.
 */
final class Edge {
    private static final Path DOCUMENT = Path.of("../shared/DOC.md");
    private static final Map<String, String> SECTIONS = new LinkedHashMap<>();

    private Edge() { }

    /** The section is "Terms" or the number of a promise. */
    static Script of(String section, String sentence) {
        return of(section, sentence, "");
    }

    /** The detail tells one of several tests of a sentence from the others. */
    static Script of(String section, String sentence, String detail) {
        readDocument();
        if (!SECTIONS.isEmpty()) {
            boolean stands = SECTIONS.getOrDefault(section, "").contains(sentence);
            Script.due(section, "\"" + sentence + "\" stands in the document", stands ? 1 : 0, 1);
        }
        return new Script(section + ": " + sentence + " " + detail);
    }

    static void run(String section, String sentence, String... texts) {
        Script script = of(section, sentence);
        for (String text : texts) {
            script.calls(text);
        }
    }

    /** Leaves the sections empty if there is no document beside the project. */
    private static void readDocument() {
        if (!SECTIONS.isEmpty() || !Files.isReadable(DOCUMENT)) {
            return;
        }
        try {
            for (String part : Files.readString(DOCUMENT).split("(?m)^## ")) {
                String title = part.lines().findFirst().orElse("");
                String name = title.startsWith("Promise ") ? title.substring(8, title.indexOf(':')) : title.trim();
                SECTIONS.put(name, part.replaceAll("\\s+", " "));
            }
        } catch (IOException e) {
            throw new IllegalStateException("the document cannot be read", e);
        }
    }
}
