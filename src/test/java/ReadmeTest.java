import java.io.ByteArrayOutputStream;
import java.io.IOException;
import java.io.PrintStream;
import java.lang.reflect.Method;
import java.lang.reflect.Modifier;
import java.net.URL;
import java.net.URLClassLoader;
import java.nio.charset.StandardCharsets;
import java.nio.file.Files;
import java.nio.file.Path;
import java.util.stream.Stream;
import javax.tools.JavaCompiler;
import javax.tools.ToolProvider;

/** That what README.md shows is so: its program prints what it says, and no call and no test is missing in it. */
public final class ReadmeTest {
    private static final Check CHECK = new Check("ReadmeTest");

    public static void main(String[] args) throws Exception {
        String readme = Files.readString(Path.of("README.md"));
        CHECK.alike("the program of README.md", printed(block(readme, "java")), block(readme, "text"));
        for (Method method : ThimbleSea.class.getDeclaredMethods()) {
            if (Modifier.isPublic(method.getModifiers())) {
                CHECK.due("README.md tells of " + method.getName(), readme.contains("`" + method.getName() + "`"), true);
            }
        }
        try (Stream<Path> files = Files.list(Path.of("src/test/java"))) {
            for (Path file : files.sorted().toList()) {
                String name = file.getFileName().toString().replace(".java", "");
                if (name.endsWith("Test")) {
                    CHECK.due("README.md tells of " + name, readme.contains("| " + name + " |"), true);
                }
            }
        }
        CHECK.alike("the one command", block(readme, "sh"), ".ci/run\n");
        CHECK.due(".ci/run can be run", Files.isExecutable(Path.of(".ci/run")), true);
        CHECK.end();
    }

    /** What stands in the first block of that kind. */
    private static String block(String readme, String kind) {
        String opening = "\n```" + kind + "\n";
        int from = readme.indexOf(opening);
        int end = from < 0 ? -1 : readme.indexOf("\n```\n", from + opening.length());
        return end < 0 ? "" : readme.substring(from + opening.length(), end + 1);
    }

    private static String printed(String program) throws Exception {
        JavaCompiler compiler = ToolProvider.getSystemJavaCompiler();
        Path directory = Files.createTempDirectory("readme");
        PrintStream out = System.out;
        ByteArrayOutputStream bytes = new ByteArrayOutputStream();
        try (URLClassLoader loader = new URLClassLoader(new URL[] {directory.toUri().toURL()}, ReadmeTest.class.getClassLoader())) {
            Path file = Files.writeString(directory.resolve("Use.java"), program);
            int rc = compiler.run(null, null, null, "-cp", System.getProperty("java.class.path"), "-d", directory.toString(), file.toString());
            if (rc != 0) {
                return "it is not compiled";
            }
            System.setOut(new PrintStream(bytes, true, StandardCharsets.UTF_8));
            loader.loadClass("Use").getMethod("main", String[].class).invoke(null, (Object) new String[0]);
        } finally {
            System.setOut(out);
            remove(directory);
        }
        return bytes.toString(StandardCharsets.UTF_8);
    }

    private static void remove(Path directory) throws IOException {
        try (Stream<Path> files = Files.list(directory)) {
            for (Path file : files.toList()) {
                Files.delete(file);
            }
        }
        Files.delete(directory);
    }
}
