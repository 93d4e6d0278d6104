import java.lang.reflect.Field;
import java.lang.reflect.Method;
import java.lang.reflect.Modifier;
import java.util.List;
import java.util.TreeSet;
import java.util.regex.Matcher;
import java.util.regex.Pattern;

/** The public face: the constants, the constructor and the methods of the document, and nothing else. */
public final class FaceTest {
    private static final String[] CONSTANTS = {"int NO_SUCH -1", "int BAD_VALUE -2", "int BAD_TEXT -3", "int TOO_MANY -4", "int NOT_POSSIBLE -5",
        "int NONE -6", "long GONE -1000000000000000000", "int UNIT 720720", "int WEIGHT 0", "int ROOM 1", "int SPLIT 2", "int PATIENCE 3", "int MERCY 4",
        "int HEADER 0", "int JOINING 1", "int MARGIN 2", "int PROMOTION 3", "int NOTHING 0", "int HALF 1", "int ALL 2", "int WAITING 0", "int SENDING 1",
        "int SENT 2", "int DELIVERED 3", "int CANCELED 4"};
    private static final String[] METHODS = {"int addFlow [int]", "int set [int, int, int]", "int rule [int, int]", "int offer [int, int, int]",
        "int cancel [int]", "int packet [int, int]", "long start [int]", "int put [long]", "int wipe []", "int fault []", "int load []",
        "int advance [int]", "int awaitDelivery [int]", "int flow [int, int]", "long amount [int, int]", "long virtualTime []", "int link [int]",
        "int piece [int, int]", "long apart [int, int]", "int forecast [int, int]", "int leastWeight [int, int]",
        "int bestSplit [int, int, int, int, int]", "int save [int]", "int restore [int]"};

    public static void main(String[] args) throws IllegalAccessException {
        Class<?> face = FairLink.class;
        isDue("the class is public", Modifier.isPublic(face.getModifiers()));
        isDue("the class is final", Modifier.isFinal(face.getModifiers()));
        isDue("the class extends nothing", face.getSuperclass() == Object.class && face.getInterfaces().length == 0);
        isDue("one public constructor", face.getDeclaredConstructors().length == 1 && face.getConstructors().length == 1);
        isDue("it takes nothing", face.getConstructors()[0].getParameterCount() == 0);
        constants(face);
        methods(face);
        if (Document.isThere()) {
            documentFace();
            documentConstants();
        }
        for (Class<?> inside : face.getDeclaredClasses()) {
            inside(inside);
        }
        Script.end();
    }

    private static void isDue(String what, boolean is) {
        Script.due("face", what, is ? 1 : 0, 1);
    }

    private static void constants(Class<?> face) throws IllegalAccessException {
        TreeSet<String> found = new TreeSet<>();
        for (Field field : face.getDeclaredFields()) {
            int modifiers = field.getModifiers();
            if (Modifier.isStatic(modifiers)) {
                isDue(field + " is final", Modifier.isFinal(modifiers));
            }
            if (!Modifier.isPrivate(modifiers)) {
                isDue(field + " is public and static", Modifier.isPublic(modifiers) && Modifier.isStatic(modifiers));
                found.add(field.getType() + " " + field.getName() + " " + field.get(null));
            }
        }
        isDue("the constants are " + found, found.equals(new TreeSet<>(List.of(CONSTANTS))));
    }

    private static void methods(Class<?> face) {
        TreeSet<String> found = new TreeSet<>();
        for (Method method : face.getDeclaredMethods()) {
            if (!Modifier.isPrivate(method.getModifiers())) {
                isDue(method + " is public and of the object", Modifier.isPublic(method.getModifiers()) && !Modifier.isStatic(method.getModifiers()));
                found.add(signature(method));
            } else {
                isDue(method + " has a name of its own", !isFaceName(method.getName()));
            }
        }
        isDue("the methods are " + found, found.equals(new TreeSet<>(List.of(METHODS))));
    }

    /** What this test expects of the class is what the document's interface has now. */
    private static void documentFace() {
        TreeSet<String> constants = new TreeSet<>();
        TreeSet<String> methods = new TreeSet<>();
        for (String line : Document.face()) {
            Matcher constant = Pattern.compile("^public static final (\\w+) (.*);$").matcher(line);
            Matcher method = Pattern.compile("^public (\\w+ \\w+)\\((.*)\\);$").matcher(line);
            if (constant.find()) {
                for (String each : constant.group(2).split(", ")) {
                    constants.add(constant.group(1) + " " + each.replace(" = ", " ").replaceAll("L$", ""));
                }
            } else if (method.find()) {
                methods.add(method.group(1) + " [" + method.group(2).replaceAll(" \\w+(?=,|$)", "") + "]");
            } else {
                isDue("the constructor is " + line, line.equals("public FairLink();"));
            }
        }
        isDue("the document's constants are " + constants, constants.equals(new TreeSet<>(List.of(CONSTANTS))));
        isDue("the document's methods are " + methods, methods.equals(new TreeSet<>(List.of(METHODS))));
    }

    /** The terms tell the constants once more, as `NAME = value, ...`. */
    private static void documentConstants() {
        String terms = Document.section("Terms");
        Matcher list = Pattern.compile("`([A-Z_]+ = -?\\d+L?(?:, [A-Z_]+ = -?\\d+)*)`").matcher(terms.substring(terms.indexOf("The constants:")));
        int found = 0;
        while (list.find()) {
            for (String each : list.group(1).split(", ")) {
                String constant = each.replace(" = ", " ").replaceAll("L$", "");
                isDue("the constant " + constant, List.of(CONSTANTS).contains((constant.startsWith("GONE") ? "long " : "int ") + constant));
                found++;
            }
        }
        isDue("all constants are told once more", found == CONSTANTS.length);
    }

    private static String signature(Method method) {
        return method.getReturnType() + " " + method.getName() + " " + List.of(method.getParameterTypes());
    }

    private static boolean isFaceName(String name) {
        for (String method : METHODS) {
            if (method.split(" ")[1].equals(name)) {
                return true;
            }
        }
        return false;
    }

    private static void inside(Class<?> inside) {
        int modifiers = inside.getModifiers();
        isDue(inside + " is static and not public", Modifier.isStatic(modifiers) && !Modifier.isPublic(modifiers) && !Modifier.isProtected(modifiers));
        for (Method method : inside.getDeclaredMethods()) {
            isDue(method + " has a name of its own", !isFaceName(method.getName()));
            isDue(method + " has at most seven parameters", method.getParameterCount() <= 7);
        }
        for (Field field : inside.getDeclaredFields()) {
            isDue(field + " is of an object", !Modifier.isStatic(field.getModifiers()));
        }
        isDue(inside + " has some twenty fields at most", inside.getDeclaredFields().length <= 20);
    }
}
