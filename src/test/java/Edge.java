import java.util.LinkedHashMap;
import java.util.LinkedHashSet;
import java.util.Map;
import java.util.Set;

/**
 * A test of one sentence of the document. The sentence is quoted, so that a reader finds it, so that a quote that no
 * longer stands in its section of the document is told, and so that DocumentTest can see which sentences have no test.
 */
final class Edge {
    private static final Map<String, Set<String>> QUOTES = new LinkedHashMap<>();

    private Edge() { }

    /** The section is "Terms" or the number of a promise. */
    static Script of(String section, String sentence) {
        return of(section, sentence, "");
    }

    /** The detail tells one of several tests of a sentence from the others. */
    static Script of(String section, String sentence, String detail) {
        QUOTES.computeIfAbsent(section, name -> new LinkedHashSet<>()).add(sentence);
        if (Document.isThere()) {
            boolean stands = Document.section(section).contains(sentence);
            Script.due(section, "\"" + sentence + "\" stands in the document", stands ? 1 : 0, 1);
        }
        return new Script(section + ": " + sentence + " " + detail);
    }

    static void run(String section, String sentence, String... texts) {
        Script script = of(section, sentence);
        for (String text : texts) {
            script.calls(text);
        }
    }

    /** The sentences of a section that were quoted since the Java machine began. */
    static Set<String> quotes(String section) {
        return QUOTES.getOrDefault(section, Set.of());
    }
}
