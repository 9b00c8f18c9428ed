import java.io.IOException;
import java.lang.reflect.Method;
import java.lang.reflect.Modifier;
import java.net.URL;
import java.net.URLClassLoader;
import java.nio.charset.StandardCharsets;
import java.nio.file.Files;
import java.nio.file.Path;
import java.util.List;
import java.util.function.BiConsumer;
import java.util.function.Consumer;
import java.util.function.Supplier;
import java.util.regex.Matcher;
import java.util.regex.Pattern;
import java.util.stream.Stream;
import javax.tools.ToolProvider;

/** What README.md says that its examples answer, the class answers; it names all calls and all tests. */
public final class ReadmeTest {
    private static final Path ROOT = Path.of(System.getProperty("project.root", "."));
    private static final Pattern EXAMPLE = Pattern.compile("(?s)```java\n(.*?)```");
    private static final Pattern LINE = Pattern.compile("(?:int (\\w+) = )?([^;]*);(?:\\s+//\\s*(.*))?");
    private static final Pattern ANSWER = Pattern.compile("(throws \\w+|-?\\d+(?:\\.\\d+)?)(?:: .*)?");
    /** The one call that answers nothing. */
    private static final String SILENT = "forge.weightScale(";

    public static void main(String[] args) throws IOException, ReflectiveOperationException {
        String readme = Files.readString(ROOT.resolve("README.md"), StandardCharsets.UTF_8);
        checkExamples(readme);
        Check.part("README.md");
        for (Method call : TensorForge.class.getDeclaredMethods()) {
            boolean open = Modifier.isPublic(call.getModifiers());
            Check.holds("it tells " + call.getName(), !open || readme.contains("| `" + call.getName() + "("));
        }
        for (String name : testFiles()) {
            Check.holds("it tells " + name, readme.contains("`" + name + "`"));
        }
        Check.holds("it says how to run the tests", readme.contains("\n    .ci/run\n"));
        Check.end();
    }

    private static List<String> testFiles() throws IOException {
        try (Stream<Path> files = Files.list(ROOT.resolve("src/test/java"))) {
            return files.map(file -> file.getFileName().toString().replace(".java", "")).toList();
        }
    }

    private static void checkExamples(String readme) throws IOException, ReflectiveOperationException {
        Matcher example = EXAMPLE.matcher(readme);
        int number = 0;
        while (example.find()) {
            number++;
            checkExample("Example" + number, example.group(1));
        }
        Check.part("README.md");
        Check.holds("there is an example", number > 0);
    }

    private static void checkExample(String name, String example) throws IOException, ReflectiveOperationException {
        Path folder = Files.createTempDirectory("readme");
        Path source = folder.resolve(name + ".java");
        try {
            Files.writeString(source, asClass(name, example));
            Check.part("README.md: " + name);
            boolean compiles = compiles(source, folder);
            Check.holds("it compiles", compiles);
            if (compiles) {
                runFrom(folder, name);
            }
        } finally {
            Files.deleteIfExists(folder.resolve(name + ".class"));
            Files.deleteIfExists(source);
            Files.deleteIfExists(folder);
        }
    }

    private static boolean compiles(Path source, Path to) {
        return ToolProvider.getSystemJavaCompiler().run(null, null, null, "-encoding", "UTF-8",
                "-cp", System.getProperty("java.class.path"), "-d", to.toString(), source.toString()) == 0;
    }

    private static void runFrom(Path folder, String name) throws IOException, ReflectiveOperationException {
        ClassLoader here = ReadmeTest.class.getClassLoader();
        BiConsumer<String, Supplier<Object>> asker = ReadmeTest::ask;
        try (URLClassLoader loader = new URLClassLoader(new URL[] {folder.toUri().toURL()}, here)) {
            Object made = loader.loadClass(name).getDeclaredConstructor().newInstance();
            @SuppressWarnings("unchecked") // asClass says that it implements just this
            Consumer<BiConsumer<String, Supplier<Object>>> example =
                    (Consumer<BiConsumer<String, Supplier<Object>>>) made;
            Check.ends(() -> example.accept(asker));
        }
    }

    /** Checks that the call of a line answers what is said behind it. */
    private static void ask(String line, Supplier<Object> call) {
        Check.part("README.md: " + line);
        Check.due(said(line), call::get);
    }

    /** What the line says that its call answers, or nothing. */
    private static String said(String line) {
        Matcher parts = LINE.matcher(line);
        Matcher answer = ANSWER.matcher(parts.matches() ? String.valueOf(parts.group(3)) : "");
        return answer.matches() ? answer.group(1).replace("throws ", "throws.") : "";
    }

    /** The example as a class that hands every call, with what it is said to answer, to an asker. */
    private static String asClass(String name, String example) {
        StringBuilder code = new StringBuilder();
        code.append("import java.util.function.*;\npublic final class ").append(name)
                .append(" implements Consumer<BiConsumer<String, Supplier<Object>>> {\n")
                .append("public void accept(BiConsumer<String, Supplier<Object>> asker) {\n");
        for (String line : example.split("\n")) {
            code.append(asked(line));
        }
        return code.append("}\n}\n").toString();
    }

    private static String asked(String line) {
        Check.part("README.md: " + line);
        Matcher parts = LINE.matcher(line);
        Check.holds("it is one statement", parts.matches());
        String made = parts.group(1);
        String call = parts.group(2);
        if (!call.startsWith("forge.") || call.startsWith(SILENT)) {
            return line + "\n";
        }
        Check.holds("its answer is told", !said(line).isEmpty());
        String asks = "asker.accept(\"" + line.replace("\\", "\\\\").replace("\"", "\\\"") + "\", () -> ";
        return made == null ? asks + call + ");\n" : line + "\n" + asks + made + ");\n";
    }
}
