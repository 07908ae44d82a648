import java.io.ByteArrayOutputStream;
import java.io.IOException;
import java.io.PrintStream;
import java.lang.reflect.InvocationTargetException;
import java.net.URL;
import java.net.URLClassLoader;
import java.nio.file.Files;
import java.nio.file.Path;
import javax.tools.ToolProvider;

/** The program in README.md compiles, and prints what stands below it. */
public final class ReadmeTest {
    private ReadmeTest() {
    }

    public static void main(String[] args) throws IOException, ReflectiveOperationException {
        String readme = Files.readString(Path.of("README.md"));
        Path folder = Files.createTempDirectory("readme");
        Path program = folder.resolve("Example.java");
        Files.writeString(program, block(readme, "java"));
        int compiled = ToolProvider.getSystemJavaCompiler().run(null, null, null, "-d", folder.toString(),
            "src/main/java/GlossedPage.java", program.toString());
        Check.due("README: the compiler", compiled, 0);
        if (compiled == 0) {
            Check.due("README: the program", printedBy(folder), block(readme, "text"));
        }
        remove(folder);
        Check.close();
    }

    /** What stands in the first block of the kind; nothing without one. */
    private static String block(String readme, String kind) {
        String fence = "```" + kind + "\n";
        int start = readme.indexOf(fence);
        int end = start < 0 ? -1 : readme.indexOf("```", start + fence.length());
        Check.due("README: it has a block of " + kind, end > 0, true);
        return end < 0 ? "" : readme.substring(start + fence.length(), end);
    }

    private static String printedBy(Path folder) throws IOException, ReflectiveOperationException {
        PrintStream screen = System.out;
        ByteArrayOutputStream printed = new ByteArrayOutputStream();
        // Without a parent the classes of the example are its own, not those that the tests run with.
        try (URLClassLoader loader = new URLClassLoader(new URL[] {folder.toUri().toURL()}, null)) {
            System.setOut(new PrintStream(printed, true));
            loader.loadClass("Example").getMethod("main", String[].class).invoke(null, (Object) new String[0]);
        } catch (InvocationTargetException e) {
            return "the program threw " + e.getCause();
        } finally {
            System.setOut(screen);
        }
        return printed.toString().replace("\r\n", "\n");
    }

    private static void remove(Path folder) throws IOException {
        try (var files = Files.list(folder)) {
            for (Path file : files.toList()) {
                Files.delete(file);
            }
        }
        Files.delete(folder);
    }
}
