import java.io.IOException;
import java.nio.file.Files;
import java.nio.file.Path;
import java.util.Arrays;
import java.util.List;
import java.util.regex.Matcher;
import java.util.regex.Pattern;

/**
 * The document from its first line to its last: each sentence of "Terms" and of the promises must be quoted by a test,
 * and what the other sections say must be so.
 */
public final class DocumentTest {
    // Where this begins, the examples (ExamplesTest) and the constants (FaceTest) follow.
    private static final String END_OF_TERMS = "Examples: Each of them begins with a new object";
    // What may stand between two quotes: list marks, and words that join two quotes.
    private static final Pattern BETWEEN = Pattern.compile("```text|```|\\b\\d\\. |\\band\\b|\\bor\\b|CONVENTIONS\\.|[^A-Za-z0-9]");

    public static void main(String[] args) throws IOException {
        isDue("there is a document", Document.isThere());
        runQuotingTests(args);
        whatItIs();
        for (String name : Document.names()) {
            if (name.equals("Terms")) {
                String terms = Document.section(name);
                isDue("the examples stand behind the terms", terms.contains(END_OF_TERMS));
                isQuoted(name, terms.substring(0, Math.max(0, terms.indexOf(END_OF_TERMS))));
            } else if (name.matches("\\d+")) {
                isQuoted(name, withoutSignature(name));
            }
        }
        isDue("there are 25 promises", Document.names().stream().filter(name -> name.matches("\\d+")).count() == 25);
        groupsOfCalls();
        Script.end();
    }

    /** Each of them ends this program if one of its own answers is wrong. */
    private static void runQuotingTests(String[] args) {
        EdgesOfTermsTest.main(args);
        EdgesOfTicksTest.main(args);
        EdgesOfSettingsTest.main(args);
        EdgesOfPacketsTest.main(args);
        EdgesOfTextsTest.main(args);
        EdgesOfTimeTest.main(args);
        EdgesOfNumbersTest.main(args);
        EdgesOfForecastsTest.main(args);
        EdgesOfSavingTest.main(args);
        PromisesTest.main(args);
    }

    private static void isDue(String what, boolean is) {
        Script.due("document", what, is ? 1 : 0, 1);
    }

    private static void whatItIs() throws IOException {
        String[] said = Document.section("What it is").split("(?<=forecasts\\.) ");
        String readme = Files.readString(Path.of("README.md")).replaceAll("\\s+", " ");
        isDue("the README says what it is: " + said[0], readme.contains(said[0]));
        isDue("the tests make at most so many calls", said[1].startsWith("An object is used for at most " + Script.MOST_CALLS + " calls"));
        isDue("nothing more is said", said.length == 2);
    }

    private static String withoutSignature(String promise) {
        Matcher matcher = Pattern.compile("^`([^`]*)`:").matcher(Document.section(promise));
        isDue(promise + ": begins with a signature", matcher.find());
        String line = "public " + matcher.group(1) + ";";
        isDue(promise + ": " + line + " stands in the face", Document.face().contains(line));
        return Document.section(promise).substring(matcher.end());
    }

    private static void isQuoted(String name, String text) {
        boolean[] quoted = new boolean[text.length()];
        for (String quote : Edge.quotes(name)) {
            for (int at = text.indexOf(quote); at >= 0; at = text.indexOf(quote, at + 1)) {
                Arrays.fill(quoted, at, at + quote.length(), true);
            }
        }
        int from = 0;
        while (from < text.length()) {
            int to = from;
            while (to < text.length() && !quoted[to]) {
                to++;
            }
            if (to > from) {
                String left = text.substring(from, to);
                isDue(name + ": a test quotes: " + left.trim(), BETWEEN.matcher(left).replaceAll("").isEmpty());
            }
            from = to + 1;
        }
    }

    /** "Ahead of the calls ... the interface says: ...": the program has these lines at these places. */
    private static void groupsOfCalls() throws IOException {
        String program = Files.readString(Path.of("src/main/java/FairLink.java"));
        Matcher group = Pattern.compile("Ahead of the calls ([^.]*) the interface says: (---- [^.]*)\\.").matcher(Document.section("Terms"));
        int groups = 0;
        while (group.find()) {
            groups++;
            int from = program.indexOf("// " + group.group(2) + "\n");
            isDue("the program has: " + group.group(2), from >= 0);
            int to = program.indexOf("// ----", from + 1);
            List<String> calls = Pattern.compile("public \\w+ (\\w+)\\(").matcher(program.substring(from, to)).results().map(found -> "`" + found.group(1) + "`").toList();
            isDue(group.group(2) + " has " + calls, String.join(", ", calls).equals(group.group(1)));
        }
        isDue("there are seven groups of calls", groups == 7);
    }
}
