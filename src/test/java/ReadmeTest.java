import java.io.IOException;
import java.lang.reflect.Method;
import java.lang.reflect.Modifier;
import java.net.URL;
import java.net.URLClassLoader;
import java.nio.file.Files;
import java.nio.file.Path;
import java.util.ArrayList;
import java.util.List;
import java.util.Set;
import java.util.TreeSet;
import java.util.regex.Matcher;
import java.util.regex.Pattern;
import java.util.stream.Stream;
import javax.tools.JavaCompiler;
import javax.tools.ToolProvider;

/** The examples of README.md answer as they tell, and what it and SENTENCES.md name is there. */
public final class ReadmeTest {
    private static final Pattern TOLD = Pattern.compile("(vm\\.\\w+\\(.*\\));\\s+// (.+)");
    private static final Pattern NAME = Pattern.compile("`(\\w+)`");
    private static final Pattern CALL = Pattern.compile("`(\\w+)\\(.*?\\)`");
    private static final Pattern TEST = Pattern.compile("`(?:(\\w+)\\.)?(\\w+)`");

    private static final Checks checks = new Checks();

    public static void main(String[] args) throws Exception {
        List<String> readme = Files.readAllLines(Path.of("README.md"));
        examples(readme);
        classes(readme);
        calls(readme);
        tests(readme);
        sentences(Files.readAllLines(Path.of("src/test/SENTENCES.md")));
        checks.end("ReadmeTest");
    }

    /** Called by the examples. */
    public static void told(String call, long got, long due) {
        checks.same("README.md: " + call, got, due);
    }

    /** Called by the examples. */
    public static void told(String call, boolean got, boolean due) {
        checks.same("README.md: " + call, got, due);
    }

    /** Called by the examples. */
    public static void told(String call, double got, double due) {
        checks.sameReal("README.md: " + call, got, due);
    }

    /** Called by the examples. */
    public static void thrown(String call, Class<? extends RuntimeException> due, Runnable action) {
        checks.thrown("README.md: " + call, due, action::run);
    }

    private static void examples(List<String> readme) throws Exception {
        List<String> source = new ArrayList<>();
        source.add("public final class ReadmeExamples {");
        int examples = 0;
        boolean inside = false;
        for (String line : readme) {
            if (line.equals("```java")) {
                source.add("public static void example" + examples + "() {");
                examples++;
                inside = true;
            } else if (inside && line.equals("```")) {
                source.add("}");
                inside = false;
            } else if (inside) {
                source.add(checked(line));
            }
        }
        source.add("}");
        checks.same("README.md has examples", examples, 3);
        run(source);
    }

    /** A line of an example; if it tells an answer, as a check of that. */
    private static String checked(String line) {
        Matcher matcher = TOLD.matcher(line);
        if (!matcher.matches()) {
            return line;
        }
        String call = matcher.group(1);
        String due = matcher.group(2).replaceFirst(":.*", "");
        if (due.startsWith("throws ")) {
            return "ReadmeTest.thrown(\"" + call + "\", " + due.substring(7) + ".class, () -> "
                + call + ");";
        }
        return "ReadmeTest.told(\"" + call + "\", " + call + ", "
            + (due.equals("NONE") ? "PairVm.NONE" : due) + ");";
    }

    private static void run(List<String> source) throws Exception {
        Path directory = Path.of("build", "readme");
        Files.createDirectories(directory);
        Path file = directory.resolve("ReadmeExamples.java");
        Files.write(file, source);
        JavaCompiler compiler = ToolProvider.getSystemJavaCompiler();
        checks.same("there is a compiler", compiler != null, true);
        if (compiler == null) {
            return;
        }
        int failed = compiler.run(null, null, null, "-encoding", "UTF-8",
            "-cp", System.getProperty("java.class.path"), "-d", directory.toString(),
            file.toString());
        checks.same("the examples compile", failed, 0);
        if (failed != 0) {
            return;
        }
        URL[] places = {directory.toUri().toURL()};
        try (URLClassLoader loader = new URLClassLoader(places, ReadmeTest.class.getClassLoader())) {
            for (Method method : loader.loadClass("ReadmeExamples").getDeclaredMethods()) {
                if (method.getName().startsWith("example")) {
                    method.invoke(null);
                }
            }
        }
    }

    private static void classes(List<String> readme) {
        Set<String> due = new TreeSet<>();
        for (Class<?> inner : PairVm.class.getDeclaredClasses()) {
            due.add(inner.getSimpleName());
        }
        checks.same("README.md names the classes " + due,
            namesOfTable(readme, "| class |", NAME).equals(due), true);
    }

    private static void calls(List<String> readme) {
        Set<String> due = new TreeSet<>();
        for (Method method : PairVm.class.getDeclaredMethods()) {
            if (Modifier.isPublic(method.getModifiers())) {
                due.add(method.getName());
            }
        }
        checks.same("README.md names the calls " + due,
            namesOfTable(readme, "| call |", CALL).equals(due), true);
    }

    private static void tests(List<String> readme) throws IOException {
        Set<String> due = new TreeSet<>();
        try (Stream<Path> files = Files.list(Path.of("src", "test", "java"))) {
            files.map(file -> file.getFileName().toString())
                .filter(name -> name.endsWith("Test.java"))
                .forEach(name -> due.add(name.substring(0, name.length() - 5)));
        }
        checks.same("README.md names the tests " + due,
            namesOfTable(readme, "| test |", NAME).equals(due), true);
    }

    /** What the first cells name in the table with that head. */
    private static Set<String> namesOfTable(List<String> lines, String head, Pattern pattern) {
        Set<String> names = new TreeSet<>();
        boolean inside = false;
        for (String line : lines) {
            inside = line.startsWith(head) || (inside && line.startsWith("|"));
            if (inside) {
                Matcher matcher = pattern.matcher(line.split("\\|")[1]);
                while (matcher.find()) {
                    names.add(matcher.group(1));
                }
            }
        }
        return names;
    }

    /** The last cells of SENTENCES.md name tests: a class and a method, or a method of the same. */
    private static void sentences(List<String> lines) throws ClassNotFoundException {
        int named = 0;
        for (String line : lines) {
            if (!line.startsWith("|")) {
                continue;
            }
            Matcher matcher = TEST.matcher(line.substring(line.lastIndexOf('|', line.length() - 2)));
            String test = "";
            while (matcher.find()) {
                test = matcher.group(1) == null ? test : matcher.group(1);
                named++;
                checks.same(test + "." + matcher.group(2) + " is there",
                    hasMethod(test, matcher.group(2)), true);
            }
        }
        checks.same("SENTENCES.md names tests", named > 100, true);
    }

    private static boolean hasMethod(String test, String name) throws ClassNotFoundException {
        for (Method method : Class.forName(test).getDeclaredMethods()) {
            if (method.getName().equals(name)) {
                return true;
            }
        }
        return false;
    }
}
