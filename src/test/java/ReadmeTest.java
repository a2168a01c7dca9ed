import java.io.ByteArrayOutputStream;
import java.io.IOException;
import java.io.PrintStream;
import java.lang.reflect.Method;
import java.lang.reflect.Modifier;
import java.net.URL;
import java.net.URLClassLoader;
import java.nio.charset.StandardCharsets;
import java.nio.file.Files;
import java.nio.file.Path;
import javax.tools.ToolProvider;

/** What README.md says of the use of the class is so. */
public final class ReadmeTest {
    private static final Checks CHECKS = new Checks();

    public static void main(String[] args) throws Exception {
        String readme = Files.readString(Path.of("README.md"));
        exampleRuns(readme);
        ruleIsRight(readme);
        callsAreAllThere(readme);
        CHECKS.close();
    }

    private static void due(String what, boolean isSo) {
        CHECKS.due(what, isSo ? 1 : 0, 1);
    }

    /** What stands between a line and the next that ends a block, behind a place. */
    private static String block(String readme, String begin, int behind) {
        int from = readme.indexOf(begin, behind) + begin.length();
        return readme.substring(from, readme.indexOf("```", from));
    }

    private static void exampleRuns(String readme) throws Exception {
        Path folder = Files.createTempDirectory("readme");
        Path source = folder.resolve("Example.java");
        Files.writeString(source, block(readme, "```java\n", 0));
        String classes = Path.of(FailBadge.class.getProtectionDomain().getCodeSource().getLocation()
                .toURI()).toString();
        int code = ToolProvider.getSystemJavaCompiler().run(null, null, null, "--release", "17", "-cp",
                classes, "-d", folder.toString(), source.toString());
        CHECKS.due("javac of the example", code, 0);
        String due = block(readme, "```text\n", readme.indexOf("It prints:"));
        String got = code == 0 ? printed(folder) : "";
        due("the example prints\n" + got + "and should print\n" + due, got.equals(due));
        deleteAll(folder);
    }

    private static String printed(Path folder) throws Exception {
        PrintStream before = System.out;
        ByteArrayOutputStream bytes = new ByteArrayOutputStream();
        try (URLClassLoader loader = new URLClassLoader(new URL[] {folder.toUri().toURL()})) {
            System.setOut(new PrintStream(bytes, true, StandardCharsets.UTF_8));
            loader.loadClass("Example").getMethod("main", String[].class)
                    .invoke(null, (Object) new String[0]);
        } finally {
            System.setOut(before);
        }
        return bytes.toString(StandardCharsets.UTF_8).replace(System.lineSeparator(), "\n");
    }

    private static void deleteAll(Path folder) throws IOException {
        try (var files = Files.list(folder)) {
            for (Path file : files.toList()) {
                Files.delete(file);
            }
        }
        Files.delete(folder);
    }

    private static void ruleIsRight(String readme) {
        String rule = block(readme, "```text\n", readme.indexOf("A RULE:")).strip();
        CHECKS.due(rule, Checks.rule(new FailBadge(), rule), 0);
    }

    private static void callsAreAllThere(String readme) {
        String table = readme.substring(readme.indexOf("### Calls"), readme.indexOf("## Tests"));
        for (Method method : FailBadge.class.getDeclaredMethods()) {
            if (Modifier.isPublic(method.getModifiers())) {
                int from = table.indexOf("`" + method.getName() + "(");
                due(method.getName() + " is told", from >= 0);
                String told = table.substring(Math.max(0, from), table.indexOf(")", Math.max(0, from)) + 1);
                int arguments = told.contains("()") ? 0 : told.split(",").length;
                CHECKS.due("arguments of " + told, arguments, method.getParameterCount());
            }
        }
    }
}
