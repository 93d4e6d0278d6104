import java.io.File;
import java.io.PrintWriter;
import java.io.StringWriter;
import java.util.ArrayList;
import java.util.HashMap;
import java.util.LinkedHashSet;
import java.util.List;
import java.util.Map;
import java.util.Set;
import java.util.regex.Matcher;
import java.util.regex.Pattern;
import java.util.spi.ToolProvider;

/** Rules of LANGUAGE.md that are seen best in what javac made of the program: what it calls, how deep, and that it throws nothing. */
public final class BytecodeTest {
    private static final List<String> LIBRARY = List.of("java/lang/Object.\"<init>\"", "java/lang/Math.max", "java/lang/Math.min", "java/lang/Math.abs",
        "java/lang/Math.floorMod", "java/lang/System.arraycopy");
    private static final List<String> FORBIDDEN = List.of("athrow", "invokedynamic", "monitorenter", "monitorexit", "checkcast", "Exception table:");
    private static final Pattern METHOD = Pattern.compile("^  (?:\\S+ )*([\\w$]+)\\(.*\\);$");
    private static final Pattern CALL = Pattern.compile(": invoke(?:virtual|special|static|interface) .*// (?:Interface)?Method ([^:]+):");
    private static final int DEEPEST = 8;

    private final Map<String, Set<String>> calls = new HashMap<>();
    private final Map<String, Integer> depths = new HashMap<>();

    public static void main(String[] args) {
        if (ToolProvider.findFirst("javap").isEmpty()) {
            System.out.println("this java has no javap: the bytecode is not looked at");
            return;
        }
        BytecodeTest test = new BytecodeTest();
        String[] classes = {"FairLink", "FairLink$Packet", "FairLink$Piece", "FairLink$Flow", "FairLink$Pad", "FairLink$State"};
        isDue("these are all classes", FairLink.class.getDeclaredClasses().length == classes.length - 1);
        for (String name : classes) {
            test.read(name);
        }
        for (Map.Entry<String, Set<String>> method : test.calls.entrySet()) {
            for (String called : method.getValue()) {
                isDue(method.getKey() + " calls " + called, test.calls.containsKey(called) || LIBRARY.contains(called));
            }
        }
        for (String method : test.calls.keySet()) {
            int depth = test.depth(method, new ArrayList<>());
            isDue(method + " goes " + depth + " deep", depth <= DEEPEST);
        }
        isDue("the public calls were seen", test.calls.containsKey("FairLink.bestSplit") && test.depths.get("FairLink.bestSplit") > 3);
        Script.end();
    }

    private static void isDue(String what, boolean is) {
        Script.due("bytecode", what, is ? 1 : 0, 1);
    }

    private void read(String name) {
        StringWriter out = new StringWriter();
        String place = System.getProperty("java.class.path").split(File.pathSeparator)[0];
        int failed = ToolProvider.findFirst("javap").orElseThrow().run(new PrintWriter(out), new PrintWriter(System.out), "-p", "-c", "-cp", place, name);
        isDue("javap reads " + name, failed == 0);
        for (String forbidden : FORBIDDEN) {
            isDue(name + " has no " + forbidden, !out.toString().contains(forbidden));
        }
        String method = name;
        for (String line : out.toString().split("\\R")) {
            Matcher head = METHOD.matcher(line);
            Matcher call = CALL.matcher(line);
            if (head.find()) {
                method = name + "." + (head.group(1).equals(name) ? "\"<init>\"" : head.group(1));
                calls.putIfAbsent(method, new LinkedHashSet<>());
            } else if (call.find()) {
                String called = call.group(1);
                calls.computeIfAbsent(method, key -> new LinkedHashSet<>()).add(called.contains(".") ? called : name + "." + called);
            }
        }
    }

    /** How many calls stand open at once at most, the method's own among them; a call of the library's counts too. */
    private int depth(String method, List<String> open) {
        if (open.contains(method)) {
            isDue("no recursion: " + open, false);
            return 1;
        }
        if (depths.containsKey(method)) {
            return depths.get(method);
        }
        open.add(method);
        int deepest = 0;
        for (String called : calls.getOrDefault(method, Set.of())) {
            deepest = Math.max(deepest, depth(called, open));
        }
        open.remove(method);
        depths.put(method, deepest + 1);
        return deepest + 1;
    }
}
