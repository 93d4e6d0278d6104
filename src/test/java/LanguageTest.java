import java.io.IOException;
import java.nio.file.Files;
import java.nio.file.Path;
import java.util.List;
import java.util.regex.Matcher;
import java.util.regex.Pattern;

/** Rules of LANGUAGE.md that can be seen in the text of the program. */
public final class LanguageTest {
    private static final String[] FORBIDDEN = {"\\bthrow\\b", "\\bthrows\\b", "\\btry\\b", "\\bcatch\\b", "\\bfinally\\b", "\\bsynchronized\\b",
        "\\bassert\\b", "\\bimport\\b", "\\bpackage\\b", "\\bprotected\\b", "\\bvolatile\\b", "\\bnative\\b", "\\btransient\\b", "->", "::", "\\bstatic\\s*\\{",
        "@", "\"", "\\bObject\\b", "\\bhashCode\\b", "\\btoString\\b", "\\bequals\\b", "\\bdouble\\b", "\\bfloat\\b", "Exact\\b", "\\bfor \\(;;\\)",
        "\\bwhile \\(true\\)"};
    private static final List<String> LIBRARY = List.of("Math.max", "Math.min", "Math.abs", "Math.floorMod", "System.arraycopy");
    private static final List<String> MADE = List.of("State", "State[", "Flow", "Flow[", "Packet", "Packet[", "Piece", "Piece[", "Pad", "int[", "char[");
    private static final int LONGEST_METHOD = 60;
    private static final int MOST_CLASSES = 12;

    public static void main(String[] args) throws IOException {
        String text = Files.readString(Path.of("src/main/java/FairLink.java"));
        for (int i = 0; i < text.length(); i++) {
            if (text.charAt(i) > 126) {
                isDue("the sign at " + i + " is plain", false);
            }
        }
        String code = text.replaceAll("(?s)/\\*.*?\\*/", "").replaceAll("//[^\n]*", "").replaceAll("'.'", "0");
        for (String forbidden : FORBIDDEN) {
            isDue("no " + forbidden, !Pattern.compile(forbidden).matcher(code).find());
        }
        onlyFrom("library", code, "\\b((?:Math|System|Integer|Long|Arrays|String|Character)\\.\\w+)", LIBRARY);
        onlyFrom("new", code, "\\bnew (\\w+\\[?)", MADE);
        Matcher classes = Pattern.compile("\\bclass \\w+").matcher(code);
        isDue("some twelve classes at most", classes.results().count() <= MOST_CLASSES);
        methodLengths(text);
        Script.end();
    }

    private static void isDue(String what, boolean is) {
        Script.due("language", what, is ? 1 : 0, 1);
    }

    private static void onlyFrom(String what, String code, String pattern, List<String> allowed) {
        Matcher matcher = Pattern.compile(pattern).matcher(code);
        while (matcher.find()) {
            isDue(what + " " + matcher.group(1), allowed.contains(matcher.group(1)));
        }
    }

    /** A method begins with a line that ends in ") {" at an indent of 4 or 8 and ends with the brace at the same indent. */
    private static void methodLengths(String text) {
        String[] lines = text.split("\n");
        for (int i = 0; i < lines.length; i++) {
            Matcher head = Pattern.compile("^( {4}| {8})[A-Za-z].*\\) \\{$").matcher(lines[i]);
            if (head.find()) {
                int end = i;
                while (end < lines.length && !lines[end].equals(head.group(1) + "}")) {
                    end++;
                }
                isDue("at most 60 lines:" + lines[i], end - i < LONGEST_METHOD);
            }
        }
    }
}
