import java.io.IOException;
import java.net.URL;
import java.net.URLClassLoader;
import java.nio.file.Files;
import java.nio.file.Path;
import java.util.ArrayList;
import java.util.List;
import java.util.function.Supplier;
import java.util.regex.Matcher;
import java.util.regex.Pattern;
import javax.tools.JavaCompiler;
import javax.tools.ToolProvider;

/** The README's example: each call gives the answer that stands behind it. */
public final class ReadmeTest {
    private static final Path README = Path.of("README.md");
    private static final String MAKING = "WayMarker office = new WayMarker();";
    private static final Pattern CALL =
        Pattern.compile("(?:int (?<name>\\w+) = )?(?<call>office\\..*);\\s*// (?<answer>(?:throws )?[^\\s:]+)(?::.*)?");
    private static final Checks CHECKS = new Checks();

    private ReadmeTest() {
    }

    public static void main(String[] args) throws IOException, ReflectiveOperationException {
        List<String> lines = exampleOf(Files.readAllLines(README));
        CHECKS.yes("the README has an example", lines.size() > 30);
        run(exampleClass(lines));
        CHECKS.end();
    }

    /** Called by the example's class, which is made of the README's lines. */
    public static void due(String line, String due, Supplier<Object> call) {
        String got;
        try {
            got = String.valueOf(call.get());
        } catch (RuntimeException e) {
            got = "throws " + e.getClass().getSimpleName();
        }
        CHECKS.yes(line + " | answered " + got, got.equals(due));
    }

    private static List<String> exampleOf(List<String> readme) {
        int from = readme.indexOf("```java") + 1;
        int length = readme.subList(from, readme.size()).indexOf("```");
        return length < 0 ? List.of() : readme.subList(from, from + length);
    }

    private static String exampleClass(List<String> lines) {
        List<String> source = new ArrayList<>(List.of("public final class Example {", "public static void run() {"));
        for (String line : lines) {
            Matcher call = CALL.matcher(line);
            if (call.matches()) {
                source.add(checked(line, call));
            } else {
                CHECKS.yes(line + " | has an answer", line.isBlank() || line.startsWith("// ") || line.equals(MAKING));
                source.add(line);
            }
        }
        source.add("}}");
        return String.join("\n", source);
    }

    private static String checked(String line, Matcher call) {
        String name = call.group("name");
        String kept = name == null ? "" : "int " + name + " = " + call.group("call") + "; ";
        String asked = name == null ? call.group("call") : name;
        return kept + "ReadmeTest.due(\"" + line + "\", \"" + call.group("answer") + "\", () -> " + asked + ");";
    }

    private static void run(String source) throws IOException, ReflectiveOperationException {
        Path directory = Files.createTempDirectory("readme");
        Path file = directory.resolve("Example.java");
        Files.writeString(file, source);
        JavaCompiler compiler = ToolProvider.getSystemJavaCompiler();
        int failed = compiler.run(null, null, null, "-cp", System.getProperty("java.class.path"), file.toString());
        CHECKS.same("the example compiles", failed, 0);
        if (failed == 0) {
            try (URLClassLoader loader = new URLClassLoader(new URL[] {directory.toUri().toURL()})) {
                loader.loadClass("Example").getMethod("run").invoke(null);
            }
        }
        Files.deleteIfExists(directory.resolve("Example.class"));
        Files.delete(file);
        Files.delete(directory);
    }
}
