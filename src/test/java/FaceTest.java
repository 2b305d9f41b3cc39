import java.io.IOException;
import java.lang.reflect.Constructor;
import java.lang.reflect.Field;
import java.lang.reflect.Method;
import java.lang.reflect.Modifier;
import java.nio.file.Files;
import java.nio.file.Path;
import java.util.ArrayList;
import java.util.Arrays;
import java.util.List;
import java.util.TreeSet;
import java.util.stream.Collectors;

/** The public face, and those rules of the language that a look at the class or at its lines can tell. */
final class FaceTest {
    private static final String SOURCE = "src/main/java/FormWright.java";
    private static final String I = "IndexOutOfBoundsException";
    private static final String S = "IllegalStateException";
    private static final String A = "IllegalArgumentException";
    private static final String[] FACE = {
        "int type(char) " + S, "int clear() ", "int error() ", "int typeOfText() " + S,
        "int setType(int,int) " + I + "," + A, "int setFormula(int) " + I + "," + A + "," + S,
        "boolean dropFormula(int) " + I, "boolean isBroken(int) " + I, "int publish() " + S,
        "int versions() ", "int typeIn(int,int) " + I, "int order(int,int) " + I, "int plain(int,int,int) " + I,
        "int begin() " + S, "int put(int,int,int) " + I + "," + S + "," + A, "int handIn(int) " + I + "," + S,
        "int answers() ", "int stateOf(int) " + I, "int versionOf(int) " + I, "int value(int,int) " + I + "," + S,
        "int refusal(int) " + I + "," + S, "int counted() ", "boolean doubt(int,int) " + I + "," + S,
        "int settle(int,int,boolean) " + I + "," + S, "int amend(int,int,int) " + I + "," + S + "," + A,
        "int doubts(int) " + I
    };
    private static final String[] CONSTANTS = {
        "NONE=-1", "ABSENT=0", "NUMBER=1", "FLAG=2", "CHOICE=3",
        "OPEN=0", "COUNTED=1", "REFUSED=2", "HELD=3", "STRUCK=4"
    };
    /** Words that the language leaves out, as they would stand in a line without its comment. */
    private static final String[] LEFT_OUT = {
        "->", "::", "Exact(", "try", "catch", "finally", "assert", "synchronized", "getMessage", "System.", "@",
        "Random", "Thread", "null ==", "protected", "import java.io", "import java.nio", "Object", "hashCode", "\" +"
    };

    private FaceTest() {
    }

    public static void main(String[] args) throws Exception {
        methods();
        constants();
        members();
        classesInside();
        lines();
        Check.end();
    }

    private static void methods() {
        List<String> found = new ArrayList<>();
        for (Method method : FormWright.class.getDeclaredMethods()) {
            if (Modifier.isPublic(method.getModifiers())) {
                String exceptions = names(method.getExceptionTypes());
                found.add(method.getReturnType() + " " + method.getName() + "(" + names(method.getParameterTypes()) + ") "
                    + exceptions);
            }
        }
        Check.due("the public methods", new TreeSet<>(Arrays.asList(FACE)), () -> new TreeSet<>(found));
    }

    private static String names(Class<?>[] types) {
        return Arrays.stream(types).map(Class::getSimpleName).collect(Collectors.joining(","));
    }

    private static void constants() throws IllegalAccessException {
        TreeSet<String> found = new TreeSet<>();
        for (Field field : FormWright.class.getDeclaredFields()) {
            if (Modifier.isPublic(field.getModifiers())) {
                found.add(field.getName() + "=" + field.getInt(null));
                Check.due(field + " is a constant", true, () -> Modifier.isFinal(field.getModifiers()));
            }
        }
        Check.due("the public constants", new TreeSet<>(Arrays.asList(CONSTANTS)), () -> found);
    }

    private static void members() {
        TreeSet<String> face = new TreeSet<>();
        for (Method method : FormWright.class.getDeclaredMethods()) {
            int flags = method.getModifiers();
            Check.due(method + " is public or private", true, () -> Modifier.isPublic(flags) || Modifier.isPrivate(flags));
            if (Modifier.isPublic(flags)) {
                Check.due(method + " is told once", true, () -> face.add(method.getName()));
            }
        }
        for (Method method : FormWright.class.getDeclaredMethods()) {
            if (Modifier.isPrivate(method.getModifiers())) {
                Check.due(method + " has a name of its own", false, () -> face.contains(method.getName()));
            }
        }
        for (Field field : FormWright.class.getDeclaredFields()) {
            int flags = field.getModifiers();
            Check.due(field + " is public or private", true, () -> Modifier.isPublic(flags) || Modifier.isPrivate(flags));
        }
        Constructor<?>[] constructors = FormWright.class.getDeclaredConstructors();
        Check.due("constructors", 1, () -> constructors.length);
        Check.due("the constructor", "public FormWright()", () -> constructors[0]);
        Check.due("the class", "public final", () -> Modifier.toString(FormWright.class.getModifiers()));
    }

    private static void classesInside() {
        Class<?>[] inside = FormWright.class.getDeclaredClasses();
        Check.due("at most twelve classes", true, () -> inside.length < 12);
        for (Class<?> each : inside) {
            int flags = each.getModifiers();
            Check.due(each + " is static", true, () -> Modifier.isStatic(flags));
            Check.due(each + " is not public", false, () -> Modifier.isPublic(flags) || Modifier.isProtected(flags));
            Check.due(each + " has no more than twenty fields", true, () -> each.getDeclaredFields().length <= 20);
            for (Method method : each.getDeclaredMethods()) {
                Check.due(method + " has at most seven parameters", true, () -> method.getParameterCount() <= 7);
                Check.due(method + " bears no name of the face", false, () -> isOfTheFace(method.getName()));
            }
        }
    }

    private static boolean isOfTheFace(String name) {
        return Arrays.stream(FACE).anyMatch(call -> call.contains(" " + name + "("));
    }

    private static void lines() throws IOException {
        List<String> lines = Files.readAllLines(Path.of(SOURCE));
        int begin = 0;
        for (int at = 0; at < lines.size(); at++) {
            String line = lines.get(at);
            int number = at + 1;
            Check.due("line " + number + " holds characters 1 to 127", true, () -> line.chars().allMatch(c -> c > 0 && c < 128));
            String code = line.trim().startsWith("*") || line.trim().startsWith("/*") ? "" : line.replaceAll("//.*", "");
            for (String word : LEFT_OUT) {
                Check.due("line " + number + " has " + word, false, () -> code.contains(word));
            }
            if (line.matches(" {4,8}[A-Za-z].*\\{") || line.matches(" {4,8}[A-Za-z].*[^;{]")) {
                begin = number;
            } else if (line.matches(" {4,8}\\}") && !isClassEnd(lines, at)) {
                int length = number - begin;
                Check.due("the method that ends at line " + number + " is short", true, () -> length <= 60);
            }
        }
    }

    private static boolean isClassEnd(List<String> lines, int at) {
        return lines.get(at).startsWith("    }") && lines.get(at - 1).startsWith("        }");
    }
}
