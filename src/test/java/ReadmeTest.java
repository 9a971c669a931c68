import java.io.ByteArrayOutputStream;
import java.io.IOException;
import java.io.PrintStream;
import java.lang.reflect.Method;
import java.net.URL;
import java.net.URLClassLoader;
import java.nio.charset.StandardCharsets;
import java.nio.file.Files;
import java.nio.file.Path;
import java.util.List;
import javax.tools.ToolProvider;

/** The program in README.md compiles as it stands there, and prints what the page says. */
public final class ReadmeTest {
    private static final Due DUE = new Due("ReadmeTest");

    public static void main(String[] args) throws IOException, ReflectiveOperationException {
        List<String> page = Files.readAllLines(Path.of("README.md"), StandardCharsets.UTF_8);
        List<String> due = block(page, "```text");
        DUE.is("the page says what is printed", due.isEmpty(), false);
        compareLines(run(block(page, "```java")), due);
        DUE.end();
    }

    /** The lines of the first block of the page that begins so. */
    private static List<String> block(List<String> page, String head) {
        int from = page.indexOf(head) + 1;
        if (from == 0) {
            return List.of();
        }
        int lines = page.subList(from, page.size()).indexOf("```");
        return lines < 0 ? List.of() : page.subList(from, from + lines);
    }

    private static List<String> run(List<String> program) throws IOException, ReflectiveOperationException {
        Path folder = Files.createTempDirectory("readme");
        Path source = folder.resolve("Example.java");
        Path compiled = folder.resolve("Example.class");
        try {
            Files.write(source, program);
            int failed = ToolProvider.getSystemJavaCompiler().run(null, null, null, "-Xlint:all", "-Werror", "-cp",
                System.getProperty("java.class.path"), "-d", folder.toString(), source.toString());
            DUE.is("compiling the page's program", failed, 0);
            return failed == 0 ? printed(folder) : List.of();
        } finally {
            Files.deleteIfExists(source);
            Files.deleteIfExists(compiled);
            Files.deleteIfExists(folder);
        }
    }

    private static List<String> printed(Path folder) throws IOException, ReflectiveOperationException {
        PrintStream before = System.out;
        ByteArrayOutputStream kept = new ByteArrayOutputStream();
        try (URLClassLoader loader = new URLClassLoader(new URL[] {folder.toUri().toURL()})) {
            Method main = loader.loadClass("Example").getMethod("main", String[].class);
            System.setOut(new PrintStream(kept, true, StandardCharsets.UTF_8));
            main.invoke(null, (Object) new String[0]);
        } finally {
            System.setOut(before);
        }
        return kept.toString(StandardCharsets.UTF_8).lines().toList();
    }

    private static void compareLines(List<String> got, List<String> due) {
        DUE.is("lines printed", got.size(), due.size());
        for (int i = 0; i < Math.min(got.size(), due.size()); i++) {
            DUE.is("line \"" + got.get(i) + "\" where the page says \"" + due.get(i) + "\"",
                got.get(i).equals(due.get(i)), true);
        }
    }
}
