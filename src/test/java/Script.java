import java.lang.reflect.InvocationTargetException;
import java.lang.reflect.Method;
import java.util.ArrayList;
import java.util.HashMap;
import java.util.List;
import java.util.Map;
import java.util.regex.Matcher;
import java.util.regex.Pattern;

/**
 * A run of calls on one new FairLink, written as the document writes its examples:
 * "addFlow(1) = 0; offer(0, 10, 0) = 0". Names of constants may stand for numbers, sums and products
 * may stand on the right side, and put("a5") puts up to 8 characters.
 */
final class Script {
    private static final Pattern CALL = Pattern.compile("\\s*(\\w+)\\(((?:\"[^\"]*\"|[^)\"])*)\\)\\s*=\\s*([-+*\\w]+)\\s*(?:;|$)");
    static final int MOST_CALLS = 512;
    private static final int MOST_TOLD = 40;
    private static final Map<String, Method> METHODS = new HashMap<>();
    private static int right = 0;
    private static int wrong = 0;

    private final String title;
    private final FairLink link = new FairLink();
    private int made = 0;

    Script(String title) {
        this.title = title;
    }

    static void run(String title, String... texts) {
        Script script = new Script(title);
        for (String text : texts) {
            script.calls(text);
        }
    }

    Script calls(String text) {
        Matcher matcher = CALL.matcher(text);
        int at = 0;
        while (at < text.length()) {
            if (!matcher.find(at) || matcher.start() != at) {
                throw new IllegalArgumentException(title + ": no call at: " + text.substring(at));
            }
            due(matcher.group(1) + "(" + matcher.group(2) + ")", answer(matcher.group(1), matcher.group(2)), value(matcher.group(3)));
            at = matcher.end();
        }
        return this;
    }

    /** Makes one call that is written without an answer. */
    long ask(String call) {
        int open = call.indexOf('(');
        return answer(call.substring(0, open), call.substring(open + 1, call.length() - 1));
    }

    int made() {
        return made;
    }

    void due(String call, long got, long want) {
        due(title, call, got, want);
    }

    static void due(String title, String call, long got, long want) {
        if (got == want) {
            right++;
        } else {
            wrong++;
            if (wrong <= MOST_TOLD) {
                System.out.println(title + ": " + call + " answered " + got + ", due is " + want);
            }
        }
    }

    /** To be called last in every main method. */
    static void end() {
        System.out.println(right + " answers right, " + wrong + " wrong");
        if (wrong > 0 || right == 0) {
            System.exit(1);
        }
    }

    static long characters(String text) {
        long number = 0;
        for (int i = 0; i < text.length(); i++) {
            number = number << 8 | text.charAt(i);
        }
        return number;
    }

    private long answer(String name, String arguments) {
        made++;
        if (made > MOST_CALLS) {
            throw new IllegalStateException(title + ": nothing is promised after " + MOST_CALLS + " calls");
        }
        List<Long> values = new ArrayList<>();
        if (arguments.startsWith("\"")) {
            values.add(characters(arguments.substring(1, arguments.length() - 1)));
        } else if (!arguments.isBlank()) {
            for (String argument : arguments.split(",")) {
                values.add(value(argument.trim()));
            }
        }
        try {
            Method method = method(name);
            return ((Number) method.invoke(link, typed(method, values))).longValue();
        } catch (IllegalAccessException | InvocationTargetException e) {
            throw new IllegalStateException(title + ": " + name + "(" + arguments + ") threw", e);
        }
    }

    private static Method method(String name) {
        if (METHODS.isEmpty()) {
            for (Method method : FairLink.class.getMethods()) {
                METHODS.put(method.getName(), method);
            }
        }
        if (!METHODS.containsKey(name)) {
            throw new IllegalArgumentException("no method " + name);
        }
        return METHODS.get(name);
    }

    private static Object[] typed(Method method, List<Long> values) {
        Object[] typed = new Object[values.size()];
        for (int i = 0; i < typed.length; i++) {
            boolean isLong = method.getParameterTypes()[i] == long.class;
            if (isLong) {
                typed[i] = values.get(i);
            } else {
                typed[i] = Math.toIntExact(values.get(i));
            }
        }
        return typed;
    }

    private static long value(String text) {
        long sum = 0;
        for (String term : text.split("\\+")) {
            long product = 1;
            for (String factor : term.split("\\*")) {
                product *= factorValue(factor);
            }
            sum += product;
        }
        return sum;
    }

    private static long factorValue(String text) {
        if (text.matches("-?\\d+L?")) {
            return Long.parseLong(text.replace("L", ""));
        }
        if (text.equals("LEAST_INT")) {
            return Integer.MIN_VALUE;
        }
        if (text.equals("GREATEST_INT")) {
            return Integer.MAX_VALUE;
        }
        try {
            return ((Number) FairLink.class.getField(text).get(null)).longValue();
        } catch (ReflectiveOperationException e) {
            throw new IllegalArgumentException("no number: " + text, e);
        }
    }
}
