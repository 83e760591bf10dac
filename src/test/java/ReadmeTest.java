import java.io.IOException;
import java.lang.reflect.Field;
import java.lang.reflect.Method;
import java.lang.reflect.Modifier;
import java.net.URL;
import java.net.URLClassLoader;
import java.nio.file.Files;
import java.nio.file.Path;
import java.util.List;
import java.util.function.BiConsumer;
import java.util.regex.Matcher;
import java.util.regex.Pattern;
import java.util.stream.Stream;
import javax.tools.ToolProvider;

/** README.md says how to use the class and how to run its tests, and says it rightly. Its path is the argument. */
public final class ReadmeTest {
    private static final Pattern EXAMPLE = Pattern.compile("(?s)```java\n(.*?)```");
    private static final Pattern ANSWER = Pattern.compile("(?m)^(x\\.\\w+\\(.*\\)); +// (-?\\d+|[A-Z]+):.*$");

    private static final Due due = new Due("ReadmeTest");
    private static int examples;
    private static int answers;

    public static void main(String[] args) throws IOException, ReflectiveOperationException {
        Path page = Path.of(args.length > 0 ? args[0] : "README.md");
        String text = Files.readString(page);
        examplesAnswer(text);
        faceIsNamed(text);
        testsAreNamed(text, page.toAbsolutePath().resolveSibling("src").resolve("test").resolve("java"));
        due.end();
    }

    // ---- the examples, compiled as they stand, each answer beside the number that the page tells

    private static void examplesAnswer(String text) throws IOException, ReflectiveOperationException {
        Path folder = Files.createTempDirectory("readme");
        Path source = folder.resolve("Examples.java");
        Files.writeString(source, classOf(text));
        String[] with = {"-cp", System.getProperty("java.class.path"), "-d", folder.toString(), source.toString()};
        int failed = ToolProvider.getSystemJavaCompiler().run(null, null, null, with);
        due.is("javac of the examples", failed, 0);
        if (failed == 0) {
            run(folder);
        }
        for (String left : List.of("Examples.class", "Examples.java", "")) {
            Files.deleteIfExists(folder.resolve(left));
        }
        due.is("examples on the page, three at least: " + examples, examples >= 3 ? 1 : 0, 1);
        due.is("answers that were compared", answers, linesWithCalls(text));
    }

    private static String classOf(String text) {
        StringBuilder code = new StringBuilder("public final class Examples {\n");
        code.append("static final int NONE = GreetedMirrors.NONE, UNKNOWN = GreetedMirrors.UNKNOWN, OUTSIDE = GreetedMirrors.OUTSIDE,");
        code.append(" NOT = GreetedMirrors.NOT, FULL = GreetedMirrors.FULL;\n");
        code.append("public static void all(java.util.function.BiConsumer<String, int[]> told) {\n");
        Matcher example = EXAMPLE.matcher(text);
        while (example.find()) {
            examples++;
            code.append("{\n").append(ANSWER.matcher(example.group(1)).replaceAll("told.accept(\"$1\", new int[] {$1, $2});")).append("}\n");
        }
        return code.append("}\n}\n").toString();
    }

    private static void run(Path folder) throws IOException, ReflectiveOperationException {
        try (URLClassLoader loader = new URLClassLoader(new URL[] {folder.toUri().toURL()})) {
            BiConsumer<String, int[]> told = (call, both) -> {
                answers++;
                due.is("the example " + call, both[0], both[1]);
            };
            loader.loadClass("Examples").getMethod("all", BiConsumer.class).invoke(null, told);
        }
    }

    /** Calls at the beginning of an example's line: each of them should tell its answer. */
    private static int linesWithCalls(String text) {
        int calls = 0;
        Matcher example = EXAMPLE.matcher(text);
        while (example.find()) {
            calls += (int) example.group(1).lines().filter(line -> line.startsWith("x.")).count();
        }
        return calls;
    }

    // ---- what the page names

    private static void faceIsNamed(String text) throws IllegalAccessException {
        for (Method method : GreetedMirrors.class.getDeclaredMethods()) {
            if (Modifier.isPublic(method.getModifiers())) {
                Pattern row = Pattern.compile("(?m)^\\|.*`" + method.getName() + "\\([a-z, ]*\\)`.* \\|.+\\|$");
                due.is("a row of the table for " + method.getName(), row.matcher(text).find() ? 1 : 0, 1);
            }
        }
        for (Field field : GreetedMirrors.class.getDeclaredFields()) {
            if (Modifier.isPublic(field.getModifiers())) {
                String row = "| `" + field.getName() + "` | " + field.getInt(null) + " | ";
                due.is("a row of the table that begins with " + row, text.contains(row) ? 1 : 0, 1);
            }
        }
    }

    private static void testsAreNamed(String text, Path folder) throws IOException {
        due.is("how to run the tests", text.contains("\n    bash .ci/run\n") ? 1 : 0, 1);
        int tests = 0;
        try (Stream<Path> files = Files.list(folder)) {
            for (Path file : (Iterable<Path>) files::iterator) {
                String name = file.getFileName().toString().replace(".java", "");
                if (name.endsWith("Test")) {
                    tests++;
                    due.is("the page names " + name, text.contains("`" + name + "`") ? 1 : 0, 1);
                }
            }
        }
        Matcher named = Pattern.compile("`(\\w+Test)`").matcher(text);
        while (named.find()) {
            due.is("there is " + named.group(1), Files.exists(folder.resolve(named.group(1) + ".java")) ? 1 : 0, 1);
        }
        due.is("tests were found", tests > 0 ? 1 : 0, 1);
    }
}
