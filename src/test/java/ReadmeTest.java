import java.io.IOException;
import java.lang.reflect.Method;
import java.lang.reflect.Modifier;
import java.net.URL;
import java.net.URLClassLoader;
import java.nio.file.Files;
import java.nio.file.Path;
import java.util.ArrayList;
import java.util.List;
import java.util.Optional;
import java.util.function.BiConsumer;
import java.util.regex.Matcher;
import java.util.regex.Pattern;
import java.util.spi.ToolProvider;

/** The Java of README.md: it compiles, and each line that tells an answer ("// = 3") gives it; all calls are told of. */
public final class ReadmeTest {
    private static final Pattern BLOCK = Pattern.compile("(?s)```java\n(.*?)```");
    private static final Pattern TOLD = Pattern.compile("^(?:(int|long) (\\w+) = )?(.*);\\s*// = (-?\\w+)(?:;.*)?$");
    private static final List<String> LINES = new ArrayList<>();

    public static void main(String[] args) throws IOException, ReflectiveOperationException {
        String readme = Files.readString(Path.of("README.md"));
        for (Method method : FairLink.class.getDeclaredMethods()) {
            if (Modifier.isPublic(method.getModifiers())) {
                isDue("tells of " + method.getName(), readme.contains(method.getName() + "("));
                isDue("has an example of " + method.getName(), readme.contains("link." + method.getName() + "("));
            }
        }
        Optional<ToolProvider> compiler = ToolProvider.findFirst("javac");
        if (compiler.isPresent()) {
            runExamples(readme, compiler.get());
        } else {
            System.out.println("this java has no compiler: the examples are not run");
        }
        Script.end();
    }

    private static void runExamples(String readme, ToolProvider compiler) throws IOException, ReflectiveOperationException {
        Path place = Files.createTempDirectory("readme");
        Path source = place.resolve("Readme.java");
        // The last one told is deleted first: the files, and then their directory.
        place.toFile().deleteOnExit();
        source.toFile().deleteOnExit();
        place.resolve("Readme.class").toFile().deleteOnExit();
        Files.writeString(source, program(readme));
        int refused = compiler.run(System.out, System.out,
            "-d", place.toString(), "-cp", System.getProperty("java.class.path"), source.toString());
        isDue("its Java compiles", refused == 0);
        if (refused == 0) {
            run(place);
        }
    }

    private static void isDue(String what, boolean is) {
        Script.due("README.md", what, is ? 1 : 0, 1);
    }

    /** A block that begins with "static" is a method to be used by the others; each other block is a method of its own. */
    private static String program(String readme) {
        StringBuilder methods = new StringBuilder();
        StringBuilder calls = new StringBuilder();
        Matcher block = BLOCK.matcher(readme);
        for (int number = 0; block.find(); number++) {
            if (block.group(1).startsWith("static ")) {
                methods.append(block.group(1));
            } else {
                methods.append("static void block").append(number).append("(java.util.function.BiConsumer<Integer, Object[]> due) {\n");
                block.group(1).lines().forEach(line -> methods.append(statement(line)).append('\n'));
                methods.append("}\n");
                calls.append("block").append(number).append("(due);\n");
            }
        }
        return "public final class Readme {\n" + methods + "public static void run(java.util.function.BiConsumer<Integer, Object[]> due) {\n" + calls + "}\n}\n";
    }

    private static String statement(String line) {
        Matcher told = TOLD.matcher(line);
        if (!told.find()) {
            isDue("a line with an answer, or the making of an object: " + line, line.equals("FairLink link = new FairLink();"));
            return line;
        }
        LINES.add(line);
        String answer = told.group(4).matches("[A-Z].*") ? "FairLink." + told.group(4) : told.group(4);
        String declared = told.group(1) == null ? "" : told.group(1) + " " + told.group(2) + " = " + told.group(3) + "; ";
        String got = told.group(1) == null ? told.group(3) : told.group(2);
        return declared + "due.accept(" + (LINES.size() - 1) + ", new Object[] {" + got + ", " + answer + "});";
    }

    private static void run(Path place) throws IOException, ReflectiveOperationException {
        BiConsumer<Integer, Object[]> due = (line, both) ->
            Script.due("README.md", LINES.get(line), asNumber(both[0]), asNumber(both[1]));
        try (URLClassLoader loader = new URLClassLoader(new URL[] {place.toUri().toURL()}, ReadmeTest.class.getClassLoader())) {
            loader.loadClass("Readme").getMethod("run", BiConsumer.class).invoke(null, due);
        }
        isDue("has examples", LINES.size() > 50);
    }

    private static long asNumber(Object value) {
        if (value instanceof Boolean is) {
            return is ? 1 : 0;
        }
        return ((Number) value).longValue();
    }
}
