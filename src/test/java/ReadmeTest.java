import java.io.ByteArrayOutputStream;
import java.io.IOException;
import java.io.PrintStream;
import java.lang.reflect.Method;
import java.lang.reflect.Modifier;
import java.net.URL;
import java.net.URLClassLoader;
import java.nio.charset.StandardCharsets;
import java.nio.file.Files;
import java.nio.file.Path;
import javax.tools.ToolProvider;

/** README.md: its example prints what it says there, and its table has every call. */
public final class ReadmeTest {
    public static void main(String[] args) throws IOException, ReflectiveOperationException {
        Checks checks = new Checks();
        String readme = Files.readString(Path.of("README.md"));
        checks.due("the example", block(readme, "text"), printedBy(block(readme, "java")));
        for (Method method : MazeDesk.class.getDeclaredMethods()) {
            if (Modifier.isPublic(method.getModifiers())) {
                checks.due("the table has " + method.getName(), true, tableHas(readme, method));
            }
        }
        checks.end();
    }

    private static String block(String readme, String kind) {
        String opening = "```" + kind + "\n";
        int start = readme.indexOf(opening) + opening.length();
        return readme.substring(start, readme.indexOf("```", start));
    }

    private static boolean tableHas(String readme, Method method) {
        return readme.lines().anyMatch(line -> line.startsWith("| `") && line.contains("`" + method.getName() + "("));
    }

    private static String printedBy(String statements) throws IOException, ReflectiveOperationException {
        Path directory = Files.createTempDirectory("readme");
        Path source = directory.resolve("Example.java");
        Path compiled = directory.resolve("Example.class");
        Files.writeString(source, "public class Example { public static void run() {\n" + statements + "}}\n");
        try {
            int answer = ToolProvider.getSystemJavaCompiler().run(null, null, null, "-d", directory.toString(),
                    "-cp", System.getProperty("java.class.path"), source.toString());
            return answer == 0 ? printedByClassIn(directory) : "it does not compile";
        } finally {
            Files.deleteIfExists(source);
            Files.deleteIfExists(compiled);
            Files.deleteIfExists(directory);
        }
    }

    private static String printedByClassIn(Path directory) throws IOException, ReflectiveOperationException {
        ByteArrayOutputStream printed = new ByteArrayOutputStream();
        PrintStream screen = System.out;
        try (URLClassLoader loader = new URLClassLoader(new URL[] {directory.toUri().toURL()})) {
            System.setOut(new PrintStream(printed, true));
            loader.loadClass("Example").getMethod("run").invoke(null);
        } finally {
            System.setOut(screen);
        }
        return printed.toString(StandardCharsets.ISO_8859_1).replace(System.lineSeparator(), "\n");
    }
}
