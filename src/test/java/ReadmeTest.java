import java.io.File;
import java.io.IOException;
import java.lang.invoke.MethodHandles;
import java.lang.reflect.Field;
import java.lang.reflect.Method;
import java.lang.reflect.Modifier;
import java.nio.file.Files;
import java.nio.file.Path;
import java.util.ArrayList;
import java.util.Arrays;
import java.util.List;
import java.util.TreeSet;
import java.util.regex.Matcher;
import java.util.regex.Pattern;
import java.util.stream.Collectors;
import java.util.stream.Stream;
import javax.tools.JavaCompiler;
import javax.tools.ToolProvider;

/** What README.md says: its use of the calls is compiled and run, its tables are held against what there is. */
final class ReadmeTest {
    private static final Path PAGE = Path.of("README.md");
    /** A call with its answer behind it: a number, a constant, a sign, a boolean, or what is thrown. */
    private static final Pattern CALL = Pattern.compile(
        "(?:int (\\w+) = )?form\\.((\\w+)\\(.*\\));\\s+// (throws )?('.'|-?\\w+)(: .*)?");
    private static final Pattern ROW = Pattern.compile("\\| `(\\w+)\\((.*?)\\)` \\| .* \\|(.*)\\|");
    private static final Pattern CONSTANT = Pattern.compile("`([A-Z]+ = -?\\d+)`");
    private static final Pattern TEST = Pattern.compile("`(\\w+Test)`");

    private ReadmeTest() {
    }

    public static void main(String[] args) throws Exception {
        List<String> page = Files.readAllLines(PAGE);
        use(useOf(page));
        calls(page);
        constants(page);
        tests(page);
        Check.end();
    }

    private static List<String> useOf(List<String> page) {
        int begin = page.indexOf("```java") + 1;
        int length = page.subList(begin, page.size()).indexOf("```");
        Check.due("there is a use of the calls", true, () -> begin > 0 && length > 0);
        return page.subList(begin, begin + Math.max(length, 0));
    }

    /** The lines are compiled as they stand, and once more with a look at each answer, which is then run. */
    private static void use(List<String> lines) throws Exception {
        Path folder = Files.createTempDirectory("readme");
        try {
            Check.due("the use compiles", 0, () -> errors(folder, "Told", lines));
            List<String> tried = lines.stream().map(ReadmeTest::tried).collect(Collectors.toList());
            if (Check.due("the use compiles with its answers", 0, () -> errors(folder, "Tried", tried))) {
                byte[] made = Files.readAllBytes(folder.resolve("Tried.class"));
                MethodHandles.lookup().defineClass(made).getDeclaredMethod("use").invoke(null);
            }
        } finally {
            takeAway(folder.toFile());
        }
        TreeSet<String> used = new TreeSet<>();
        lines.stream().map(CALL::matcher).filter(Matcher::matches).forEach(call -> used.add(call.group(3)));
        Check.due("the calls that are used", new TreeSet<>(face().stream().map(Method::getName)
            .collect(Collectors.toList())), () -> used);
    }

    private static String tried(String line) {
        Matcher call = CALL.matcher(line);
        if (!call.matches()) {
            // The signs of a text are typed in a loop, which has no answer of its own.
            boolean isTold = !line.contains("form.") || line.equals("    form.type(sign);");
            Check.due("an answer stands behind " + line, true, () -> isTold);
            return line;
        }
        String name = call.group(1);
        String code = "form." + call.group(2);
        String made = name == null ? "" : "int " + name + " = " + code + "; ";
        return made + "Check.due(\"README.md: " + code.replace("\"", "\\\"").replace("'", "\\'") + "\", " + due(call)
            + ", () -> " + (name == null ? code : name) + ");";
    }

    private static String due(Matcher call) {
        String told = call.group(5);
        if (call.group(4) != null) {
            return "\"throws." + told + "\"";
        }
        return told.startsWith("'") ? "(int) " + told : told.matches("[A-Z]+") ? "FormWright." + told : told;
    }

    private static Object errors(Path folder, String name, List<String> lines) {
        JavaCompiler compiler = ToolProvider.getSystemJavaCompiler();
        Path source = folder.resolve(name + ".java");
        String code = "class " + name + " { static void use() {\n" + String.join("\n", lines) + "\n} }\n";
        try {
            Files.writeString(source, code);
        } catch (IOException e) {
            return e;
        }
        return compiler == null ? "no compiler" : compiler.run(null, null, null,
            "-cp", System.getProperty("java.class.path"), "-d", folder.toString(), source.toString());
    }

    private static void takeAway(File folder) {
        File[] files = folder.listFiles();
        for (File file : files == null ? new File[0] : files) {
            file.delete();
        }
        folder.delete();
    }

    private static List<Method> face() {
        return Arrays.stream(FormWright.class.getDeclaredMethods())
            .filter(method -> Modifier.isPublic(method.getModifiers())).collect(Collectors.toList());
    }

    /** Each call with the number of its parameters, and with the exceptions in their order. */
    private static void calls(List<String> page) {
        List<String> due = new ArrayList<>();
        for (Method method : face()) {
            String thrown = Arrays.stream(method.getExceptionTypes())
                .map(type -> type.getSimpleName().replace("Exception", "")).collect(Collectors.joining(", "));
            due.add(method.getName() + " " + method.getParameterCount() + " " + thrown);
        }
        List<String> told = new ArrayList<>();
        for (String line : page) {
            Matcher row = ROW.matcher(line);
            if (row.matches()) {
                int parameters = row.group(2).isEmpty() ? 0 : row.group(2).split(", ").length;
                told.add(row.group(1) + " " + parameters + " " + row.group(3).trim());
            }
        }
        due.sort(null);
        told.sort(null);
        Check.due("the calls that the page tells", due, () -> told);
    }

    private static void constants(List<String> page) throws IllegalAccessException {
        TreeSet<String> due = new TreeSet<>();
        for (Field field : FormWright.class.getDeclaredFields()) {
            if (Modifier.isPublic(field.getModifiers())) {
                due.add(field.getName() + " = " + field.getInt(null));
            }
        }
        Check.due("the constants that the page tells", due, () -> found(CONSTANT, page));
    }

    private static void tests(List<String> page) throws IOException {
        TreeSet<String> due = new TreeSet<>();
        try (Stream<Path> files = Files.list(Path.of("src/test/java"))) {
            files.map(file -> file.getFileName().toString()).filter(name -> name.endsWith("Test.java"))
                .forEach(name -> due.add(name.replace(".java", "")));
        }
        Check.due("the tests that the page tells", due, () -> found(TEST, page));
    }

    private static TreeSet<String> found(Pattern pattern, List<String> page) {
        TreeSet<String> found = new TreeSet<>();
        for (String line : page) {
            for (Matcher matcher = pattern.matcher(line); matcher.find(); ) {
                found.add(matcher.group(1));
            }
        }
        return found;
    }
}
