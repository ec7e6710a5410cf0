import java.io.IOException;
import java.lang.reflect.Method;
import java.lang.reflect.Modifier;
import java.net.URL;
import java.net.URLClassLoader;
import java.nio.charset.StandardCharsets;
import java.nio.file.Files;
import java.nio.file.Path;
import java.util.ArrayList;
import java.util.List;
import java.util.Set;
import java.util.TreeSet;
import java.util.regex.Matcher;
import java.util.regex.Pattern;
import java.util.stream.Stream;
import javax.tools.JavaCompiler;
import javax.tools.ToolProvider;

/** What README.md says: its example answers what its comments say, and it names each call and each test. */
public final class ReadmeTest {
    private static final Path README = Path.of("README.md");
    private static final Path TESTS = Path.of("src/test/java");

    /** What stands after a comma tells the reader more, and is not checked. */
    private static final Pattern ANSWERS = Pattern.compile("(.*);\\s*// answers ([^,]+)(,.*)?");
    private static final Pattern THROWS = Pattern.compile("(.*);\\s*// throws (\\w+)");
    private static final Pattern DECLARES = Pattern.compile("\\w+ (\\w+) = .*");

    /** Fewer would mean that the comments are not found any more. */
    private static final int LEAST_COMMENTS = 10;

    private static int wrong = 0;
    private static int comments = 0;

    private static void fault(String what) {
        wrong++;
        System.out.println(what);
    }

    // ---- the example

    /** Called by the example. A text is compared, because the comment may write a long as an int. */
    public static void due(String line, Object got, Object want) {
        comments++;
        if (!String.valueOf(got).equals(String.valueOf(want))) {
            fault("README.md: " + line + " answered " + got + ", it says " + want);
        }
    }

    private static String literal(String text) {
        return "\"" + text.replace("\\", "\\\\").replace("\"", "\\\"") + "\"";
    }

    private static String program(List<String> readme) {
        StringBuilder code = new StringBuilder("public final class ReadmeExample { public static void run() {\n");
        boolean isExample = false;
        for (String line : readme) {
            if (line.startsWith("```")) {
                isExample = line.equals("```java");
            } else if (isExample) {
                code.append(statement(line)).append('\n');
            }
        }
        return code.append("} }\n").toString();
    }

    private static String statement(String line) {
        Matcher answers = ANSWERS.matcher(line);
        Matcher throwing = THROWS.matcher(line);
        if (answers.matches()) {
            Matcher declares = DECLARES.matcher(answers.group(1));
            String got = declares.matches() ? declares.group(1) : answers.group(1);
            String before = declares.matches() ? answers.group(1) + "; " : "";
            return before + "ReadmeTest.due(" + literal(answers.group(1)) + ", " + got + ", " + answers.group(2) + ");";
        }
        if (throwing.matches()) {
            String call = "ReadmeTest.due(" + literal(throwing.group(1)) + ", ";
            String want = ", " + literal(throwing.group(2)) + "); ";
            return "try { " + call + throwing.group(1) + want + "} catch (RuntimeException e) { " + call
                + "e.getClass().getSimpleName()" + want + "}";
        }
        return line;
    }

    private static void runExample(List<String> readme, Path room) throws IOException {
        Path source = room.resolve("ReadmeExample.java");
        Files.writeString(source, program(readme), StandardCharsets.UTF_8);
        JavaCompiler compiler = ToolProvider.getSystemJavaCompiler();
        int failed = compiler.run(null, null, null, "-cp", System.getProperty("java.class.path"), "-d", room.toString(),
            source.toString());
        if (failed != 0) {
            fault("README.md: the example does not compile");
            return;
        }
        try (URLClassLoader loader = new URLClassLoader(new URL[] {room.toUri().toURL()})) {
            loader.loadClass("ReadmeExample").getMethod("run").invoke(null);
        } catch (ReflectiveOperationException e) {
            fault("README.md: the example ended with " + (e.getCause() == null ? e : e.getCause()));
        }
        if (comments < LEAST_COMMENTS) fault("README.md: only " + comments + " comments say what is answered");
    }

    private static void tidy(Path room) throws IOException {
        for (String each : new String[] {"ReadmeExample.java", "ReadmeExample.class"}) {
            Files.deleteIfExists(room.resolve(each));
        }
        Files.deleteIfExists(room);
    }

    // ---- the names

    /** What stands between single back quotes, outside the example. */
    private static Set<String> named(List<String> readme) {
        Set<String> names = new TreeSet<>();
        boolean isExample = false;
        for (String line : readme) {
            if (line.startsWith("```")) isExample = line.equals("```java");
            Matcher name = Pattern.compile("`([^`]+)`").matcher(isExample ? "" : line);
            while (name.find()) names.add(name.group(1));
        }
        return names;
    }

    private static void checkCalls(Set<String> named) {
        for (Method each : SignedDocument.class.getDeclaredMethods()) {
            if (Modifier.isPublic(each.getModifiers()) && !named.contains(each.getName())) {
                fault("README.md does not name the call " + each.getName());
            }
        }
    }

    private static Set<String> testFiles() throws IOException {
        Set<String> tests = new TreeSet<>();
        try (Stream<Path> files = Files.list(TESTS)) {
            for (Path each : (Iterable<Path>) files::iterator) {
                tests.add(each.getFileName().toString().replace(".java", ""));
            }
        }
        return tests;
    }

    private static void checkTests(Set<String> named) throws IOException {
        Set<String> tests = testFiles();
        for (String each : tests) {
            if (!named.contains(each) && !named.contains("@" + each)) fault("README.md does not name " + each);
        }
        for (String each : named) {
            if (each.matches("\\w+Test") && !tests.contains(each)) fault("there is no test " + each);
        }
    }

    private static void checkPaths(Set<String> named) {
        for (String each : named) {
            if (each.contains("/") && !Files.exists(Path.of(each))) fault("there is no " + each);
        }
    }

    public static void main(String[] args) throws IOException {
        List<String> readme = new ArrayList<>(Files.readAllLines(README, StandardCharsets.UTF_8));
        Path room = Files.createTempDirectory("readme");
        try {
            runExample(readme, room);
        } finally {
            tidy(room);
        }
        Set<String> named = named(readme);
        checkCalls(named);
        checkTests(named);
        checkPaths(named);
        System.out.println(comments + " answers of the example: " + (wrong == 0 ? "all as due" : wrong + " faults"));
        if (wrong != 0) System.exit(1);
    }
}
