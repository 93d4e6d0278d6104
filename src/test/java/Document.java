import java.io.IOException;
import java.nio.file.Files;
import java.nio.file.Path;
import java.util.ArrayList;
import java.util.LinkedHashMap;
import java.util.List;
import java.util.Map;
import java.util.Set;
import java.util.regex.Matcher;
import java.util.regex.Pattern;

/** The document beside the project. All that it has is empty if it is not there. */
final class Document {
    private static final Path PLACE = Path.of("../shared/DOC.md");
    private static final Map<String, String> SECTIONS = new LinkedHashMap<>();

    private Document() { }

    static boolean isThere() {
        return Files.isReadable(PLACE);
    }

    /** The titles, and of the promises their numbers alone. */
    static Set<String> names() {
        read();
        return SECTIONS.keySet();
    }

    /** The text below a title, with single spaces. */
    static String section(String name) {
        read();
        return SECTIONS.getOrDefault(name, "");
    }

    /** The calls of each example, with their answers. */
    static List<String> examples() {
        List<String> found = new ArrayList<>();
        String terms = section("Terms");
        int from = terms.indexOf("Examples:");
        int to = terms.indexOf("The constants:");
        if (from >= 0 && to > from) {
            Matcher matcher = Pattern.compile("\\d\\. [^:]*: ([^.]*)\\.").matcher(terms.substring(from, to));
            while (matcher.find()) {
                found.add(matcher.group(1));
            }
        }
        return found;
    }

    /** The lines of the interface, without the braces around them. */
    static List<String> face() {
        List<String> found = new ArrayList<>();
        Matcher matcher = Pattern.compile("public [^;{]*;").matcher(section("The public face"));
        while (matcher.find()) {
            found.add(matcher.group());
        }
        return found;
    }

    private static void read() {
        if (!SECTIONS.isEmpty() || !isThere()) {
            return;
        }
        try {
            for (String part : Files.readString(PLACE).split("(?m)^## ")) {
                String title = part.lines().findFirst().orElse("");
                String name = title.startsWith("Promise ") ? title.substring(8, title.indexOf(':')) : title.trim();
                SECTIONS.put(name, part.substring(title.length()).replaceAll("\\s+", " ").trim());
            }
        } catch (IOException e) {
            throw new IllegalStateException("the document cannot be read", e);
        }
    }
}
