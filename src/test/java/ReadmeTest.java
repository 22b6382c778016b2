import java.io.ByteArrayOutputStream;
import java.io.IOException;
import java.io.PrintStream;
import java.lang.reflect.Method;
import java.lang.reflect.Modifier;
import java.net.URL;
import java.net.URLClassLoader;
import java.nio.charset.StandardCharsets;
import java.nio.file.Files;
import java.nio.file.Path;
import javax.tools.ToolProvider;

/** What README.md says of the use: its example prints what it says, and no call is left out. */
public final class ReadmeTest {
    private static final Expect EXPECT = new Expect("ReadmeTest");
    private static final Path BUILD = Path.of("build", "readme");

    public static void main(String[] args) throws IOException, ReflectiveOperationException {
        String readme = Files.readString(Path.of("README.md"), StandardCharsets.UTF_8);
        String printed = run(blockOf(readme, "java"));
        String due = blockOf(readme, "text");
        EXPECT.isTrue("the example prints " + due + ", it was " + printed + ", which", printed.equals(due));
        tableIsWhole(readme);
        EXPECT.end();
    }

    private static String blockOf(String readme, String language) {
        String mark = "```" + language + "\n";
        int from = readme.indexOf(mark) + mark.length();
        return readme.substring(from, readme.indexOf("```", from));
    }

    private static String run(String program) throws IOException, ReflectiveOperationException {
        Files.createDirectories(BUILD);
        Path file = BUILD.resolve("Example.java");
        Files.writeString(file, program);
        int result = ToolProvider.getSystemJavaCompiler().run(null, null, null,
            "-cp", "build/main", "-d", BUILD.toString(), file.toString());
        EXPECT.same("the compiler, of the example,", result, 0);
        URL[] classes = {BUILD.toUri().toURL()};
        PrintStream out = System.out;
        ByteArrayOutputStream caught = new ByteArrayOutputStream();
        try (URLClassLoader loader = new URLClassLoader(classes)) {
            System.setOut(new PrintStream(caught, true, StandardCharsets.UTF_8));
            loader.loadClass("Example").getMethod("main", String[].class).invoke(null, (Object) new String[0]);
        } finally {
            System.setOut(out);
        }
        return caught.toString(StandardCharsets.UTF_8).replace(System.lineSeparator(), "\n");
    }

    private static void tableIsWhole(String readme) {
        for (Method m : FairChecker.class.getDeclaredMethods()) {
            if (Modifier.isPublic(m.getModifiers())) {
                EXPECT.isTrue(m.getName() + " stands in the table: that", readme.contains("`" + m.getName() + "("));
            }
        }
    }
}
