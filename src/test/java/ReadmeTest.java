import java.io.ByteArrayOutputStream;
import java.io.IOException;
import java.io.PrintStream;
import java.net.URL;
import java.net.URLClassLoader;
import java.nio.charset.StandardCharsets;
import java.nio.file.Files;
import java.nio.file.Path;
import java.util.ArrayList;
import java.util.List;
import javax.tools.ToolProvider;

/** The example of README.md compiles, and prints what the comments behind its println calls say. */
public final class ReadmeTest {
    private static final Path README = Path.of("README.md");
    private static final String PRINTED = "System.out.println(";

    public static void main(String[] args) throws IOException, ReflectiveOperationException {
        List<String> example = example(Files.readAllLines(README));
        Path folder = Files.createTempDirectory("readme");
        try {
            Check.due("what the example prints", printed(folder, example), due(example));
        } finally {
            delete(folder);
        }
        Check.end();
    }

    private static List<String> example(List<String> readme) {
        int first = readme.indexOf("```java") + 1;
        return readme.subList(first, first + readme.subList(first, readme.size()).indexOf("```"));
    }

    private static String due(List<String> example) {
        List<String> due = new ArrayList<>();
        for (String line : example) {
            if (line.contains(PRINTED)) {
                due.add(line.substring(line.lastIndexOf("// ") + 3));
            }
        }
        return due.toString();
    }

    private static String printed(Path folder, List<String> example) throws IOException, ReflectiveOperationException {
        Path source = Files.write(folder.resolve("Example.java"), example);
        String path = System.getProperty("java.class.path");
        int result = ToolProvider.getSystemJavaCompiler().run(null, null, null,
                "-cp", path, "-d", folder.toString(), source.toString());
        if (result != 0) {
            return "it does not compile";
        }
        PrintStream console = System.out;
        ByteArrayOutputStream caught = new ByteArrayOutputStream();
        try (URLClassLoader loader = new URLClassLoader(new URL[] {folder.toUri().toURL()})) {
            System.setOut(new PrintStream(caught, true, StandardCharsets.UTF_8));
            loader.loadClass("Example").getMethod("main", String[].class).invoke(null, (Object) new String[0]);
        } finally {
            System.setOut(console);
        }
        return caught.toString(StandardCharsets.UTF_8).lines().toList().toString();
    }

    private static void delete(Path folder) throws IOException {
        try (var files = Files.list(folder)) {
            for (Path file : files.toList()) {
                Files.delete(file);
            }
        }
        Files.delete(folder);
    }
}
