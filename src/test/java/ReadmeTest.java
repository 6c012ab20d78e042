import java.io.IOException;
import java.lang.reflect.InvocationTargetException;
import java.net.URI;
import java.net.URL;
import java.net.URLClassLoader;
import java.nio.file.Files;
import java.nio.file.Path;
import java.util.ArrayList;
import java.util.List;
import java.util.regex.Matcher;
import java.util.regex.Pattern;
import javax.tools.JavaCompiler;
import javax.tools.ToolProvider;

/**
 * Runs the examples of README.md as they stand there. Behind each call stands {@code // answer}, or
 * {@code // throws SomeException}; a comma and what follows it is a remark. A call without its answer is
 * wrong, but for the making of the object.
 */
public final class ReadmeTest {
    private static final Path README = Path.of("README.md");
    private static final Path PLACE = Path.of("build", "readme");
    private static final String NAME = "ReadmeExample";
    private static final Pattern MADE = Pattern.compile("DeedProtocol \\w+ = new DeedProtocol\\(\\);");
    private static final Pattern KEPT = Pattern.compile("(int (\\w+)) = (.+);\\s+// ([^,]+).*");
    private static final Pattern ASKED = Pattern.compile("(\\w+\\..+);\\s+// ([^,]+).*");

    private ReadmeTest() {
    }

    public static void main(String[] args) throws IOException, ReflectiveOperationException {
        List<String> example = exampleLines();
        Check.yes("README.md has an example", !example.isEmpty());
        Files.createDirectories(PLACE);
        Path source = PLACE.resolve(NAME + ".java");
        Files.writeString(source, asClass(example));
        if (compiles(source)) {
            run();
        }
        Check.end();
    }

    /** Called by the example: what a line answered, and what stands behind it. */
    public static void answers(String line, String got, String due) {
        if (!got.equals(due)) {
            Check.report("README.md: " + line + " answered " + got + ", there stands " + due);
        }
    }

    private static List<String> exampleLines() throws IOException {
        List<String> found = new ArrayList<>();
        boolean isInside = false;
        for (String line : Files.readAllLines(README)) {
            if (line.startsWith("```")) {
                isInside = line.equals("```java");
            } else if (isInside) {
                found.add(line.trim());
            }
        }
        return found;
    }

    private static String asClass(List<String> example) {
        StringBuilder text = new StringBuilder("public final class " + NAME + " {\n");
        text.append("    public static void run() {\n        String got;\n");
        for (String line : example) {
            text.append(asStatements(line));
        }
        return text.append("    }\n}\n").toString();
    }

    private static String asStatements(String line) {
        Matcher kept = KEPT.matcher(line);
        Matcher asked = ASKED.matcher(line);
        if (line.isEmpty() || line.startsWith("//")) {
            return "";
        }
        if (MADE.matcher(line).matches()) {
            return line + "\n";
        }
        if (kept.matches()) {
            return kept.group(1) + " = " + kept.group(3) + ";\n"
                    + held(kept.group(3), "String.valueOf(" + kept.group(2) + ")", kept.group(4));
        }
        if (asked.matches()) {
            return "try { got = String.valueOf(" + asked.group(1) + "); }\n"
                    + "catch (RuntimeException thrown) { got = \"throws \" + thrown.getClass().getSimpleName(); }\n"
                    + held(asked.group(1), "got", asked.group(2));
        }
        Check.report("README.md: no answer is told behind " + line);
        return "";
    }

    private static String held(String call, String got, String due) {
        return "ReadmeTest.answers(\"" + call + "\", " + got + ", \"" + due.trim() + "\");\n";
    }

    private static boolean compiles(Path source) {
        JavaCompiler compiler = ToolProvider.getSystemJavaCompiler();
        String classPath = System.getProperty("java.class.path");
        boolean isCompiled = compiler != null
                && compiler.run(null, null, null, "-cp", classPath, "-d", PLACE.toString(), source.toString()) == 0;
        Check.yes("the example of README.md compiles", isCompiled);
        return isCompiled;
    }

    private static void run() throws IOException, ReflectiveOperationException {
        URI place = PLACE.toUri();
        try (URLClassLoader loader = new URLClassLoader(new URL[] {place.toURL()})) {
            loader.loadClass(NAME).getMethod("run").invoke(null);
        } catch (InvocationTargetException broken) {
            Check.report("README.md: the example threw " + broken.getCause());
        }
    }
}
