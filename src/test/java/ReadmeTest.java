import java.io.IOException;
import java.lang.reflect.Method;
import java.lang.reflect.Modifier;
import java.net.URL;
import java.net.URLClassLoader;
import java.nio.file.DirectoryStream;
import java.nio.file.Files;
import java.nio.file.Path;
import java.util.Comparator;
import java.util.List;
import java.util.regex.Matcher;
import java.util.regex.Pattern;
import java.util.stream.Collectors;
import java.util.stream.Stream;
import javax.tools.JavaCompiler;
import javax.tools.ToolProvider;

/** The example of README.md answers as README.md says, and its tables name each test; run from the project's folder. */
public final class ReadmeTest {
    /** Hears what each call of the example answers; public, for the example's class is of another loader. */
    public interface Teller {
        void tell(String answer);
    }

    private static final Checks CHECKS = new Checks("ReadmeTest");
    private static final Path README = Path.of("README.md");
    private static final Path TESTS = Path.of("src/test/java");
    private static final Pattern CALL = Pattern.compile("(x\\.\\w+\\(.*\\)); +// (throws \\w+|\\w+)(?:: .*)?");

    public static void main(String[] args) throws IOException, ReflectiveOperationException {
        String text = Files.readString(README);
        example(linesOfExample(text));
        tables(text);
        CHECKS.end();
    }

    private static List<String> linesOfExample(String text) {
        int start = text.indexOf("```java\n") + 8;
        return text.substring(start, text.indexOf("```\n", start)).lines().filter(line -> !line.isBlank()).collect(Collectors.toList());
    }

    private static void example(List<String> lines) throws IOException, ReflectiveOperationException {
        CHECKS.same("the first line", lines.get(0), "ForkBridge x = new ForkBridge();");
        List<String> calls = lines.stream().skip(1).filter(line -> !line.startsWith("// ")).collect(Collectors.toList());
        StringBuilder body = new StringBuilder(lines.get(0) + "\n");
        for (String line : calls) {
            Matcher call = CALL.matcher(line);
            CHECKS.yes("a call and its answer: " + line, call.matches());
            body.append("try { told.tell(\"\" + ").append(call.group(1)).append("); }")
                .append(" catch (RuntimeException e) { told.tell(\"throws \" + e.getClass().getSimpleName()); }\n");
        }
        for (Method method : ForkBridge.class.getDeclaredMethods()) {
            String name = method.getName();
            boolean called = calls.stream().anyMatch(line -> line.startsWith("x." + name + "("));
            CHECKS.yes("the example calls " + name, called || !Modifier.isPublic(method.getModifiers()));
        }
        run(body.toString(), calls);
    }

    private static void run(String body, List<String> calls) throws IOException, ReflectiveOperationException {
        Path folder = Files.createTempDirectory("readme");
        try {
            Path source = folder.resolve("Example.java");
            Files.writeString(source, "public class Example { public static void run(ReadmeTest.Teller told) {\n" + body + "}}\n");
            compile(source, folder);
            int[] place = {0};
            callExample(folder, answer -> compare(calls.get(place[0]++), answer));
            CHECKS.same("answers", place[0], calls.size());
        } finally {
            remove(folder);
        }
    }

    private static void compare(String line, String answer) {
        Matcher call = CALL.matcher(line);
        CHECKS.same(line, answer, call.matches() ? call.group(2) : "");
    }

    private static void compile(Path source, Path folder) {
        JavaCompiler compiler = ToolProvider.getSystemJavaCompiler();
        int code = compiler.run(null, null, null, "-classpath", System.getProperty("java.class.path"), "-d", folder.toString(), source.toString());
        CHECKS.same("compiling the example", code, 0);
    }

    private static void callExample(Path folder, Teller told) throws IOException, ReflectiveOperationException {
        try (URLClassLoader loader = new URLClassLoader(new URL[] {folder.toUri().toURL()})) {
            loader.loadClass("Example").getMethod("run", Teller.class).invoke(null, told);
        }
    }

    private static void remove(Path folder) throws IOException {
        try (Stream<Path> all = Files.walk(folder)) {
            for (Path path : all.sorted(Comparator.reverseOrder()).collect(Collectors.toList())) {
                Files.delete(path);
            }
        }
    }

    private static void tables(String text) throws IOException {
        try (DirectoryStream<Path> files = Files.newDirectoryStream(TESTS, "*Test.java")) {
            for (Path file : files) {
                String name = file.getFileName().toString().replace(".java", "");
                CHECKS.yes("README.md names " + name, Pattern.compile("(?m)^\\| .*\\b" + name + "\\b.* \\|$").matcher(text).find());
            }
        }
        Matcher named = Pattern.compile("\\b\\w+Test\\b").matcher(text);
        while (named.find()) {
            CHECKS.yes("there is " + named.group(), Files.isRegularFile(TESTS.resolve(named.group() + ".java")));
        }
    }
}
