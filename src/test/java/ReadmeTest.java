import java.io.ByteArrayOutputStream;
import java.io.File;
import java.io.IOException;
import java.io.PrintStream;
import java.lang.reflect.InvocationTargetException;
import java.net.URL;
import java.net.URLClassLoader;
import java.nio.charset.StandardCharsets;
import java.nio.file.Files;
import java.nio.file.Path;
import java.util.regex.Matcher;
import java.util.regex.Pattern;
import javax.tools.ToolProvider;

/** The example of README.md compiles against the class, and prints what README.md says. */
public final class ReadmeTest {
    public static void main(String[] args) throws IOException, ReflectiveOperationException {
        String readme = Files.readString(Path.of("README.md"));
        String example = block(readme, "java");
        String want = block(readme, "text");
        String got = print(example);
        boolean same = got.lines().toList().equals(want.lines().toList());
        System.out.println(same ? "the example is as said" : "the example prints\n" + got);
        if (!same || want.isBlank()) {
            System.exit(1);
        }
    }

    private static String block(String readme, String language) {
        Matcher m = Pattern.compile("(?s)```" + language + "\\R(.*?)```").matcher(readme);
        return m.find() ? m.group(1) : "";
    }

    private static String print(String example) throws IOException, ReflectiveOperationException {
        Path folder = Files.createTempDirectory("readme");
        Path source = folder.resolve("Example.java");
        try {
            Files.writeString(source, example);
            String path = System.getProperty("java.class.path");
            int fault = ToolProvider.getSystemJavaCompiler().run(null, null, null, "-cp", path, "-d", folder.toString(),
                source.toString());
            return fault == 0 ? run(folder) : "nothing: it does not compile";
        } finally {
            for (File f : folder.toFile().listFiles()) {
                f.delete();
            }
            Files.delete(folder);
        }
    }

    private static String run(Path folder) throws IOException, ReflectiveOperationException {
        PrintStream screen = System.out;
        ByteArrayOutputStream out = new ByteArrayOutputStream();
        try (URLClassLoader loader = new URLClassLoader(new URL[] {folder.toUri().toURL()})) {
            System.setOut(new PrintStream(out, true, StandardCharsets.UTF_8));
            loader.loadClass("Example").getMethod("main", String[].class).invoke(null, (Object) new String[0]);
        } catch (InvocationTargetException e) {
            return "nothing: it ends with " + e.getCause();
        } finally {
            System.setOut(screen);
        }
        return out.toString(StandardCharsets.UTF_8);
    }
}
