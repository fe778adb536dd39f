import java.io.ByteArrayOutputStream;
import java.io.IOException;
import java.io.PrintStream;
import java.lang.reflect.Method;
import java.net.URL;
import java.net.URLClassLoader;
import java.nio.file.Files;
import java.nio.file.Path;
import java.util.List;
import java.util.stream.Collectors;
import javax.tools.ToolProvider;

/** The program in README.md compiles and prints what the comments in it say; run from the project's directory. */
public final class ReadmeTest {
    private static final String PRINTS = "// prints ";

    public static void main(String[] args) throws Exception {
        List<String> program = program(Files.readAllLines(Path.of("README.md")));
        String due = program.stream().filter(line -> line.contains(PRINTS))
            .map(line -> line.substring(line.indexOf(PRINTS) + PRINTS.length())).collect(Collectors.joining("\n"));
        Check.same("README.md says what is printed", 1, due.isEmpty() ? 0 : 1);
        Check.same("README.md", due, printed(compiled(program)));
        Check.end();
    }

    private static List<String> program(List<String> readme) {
        int first = readme.indexOf("```java") + 1;
        int length = readme.subList(first, readme.size()).indexOf("```");
        return readme.subList(first, first + length);
    }

    private static Path compiled(List<String> program) throws IOException {
        Path place = Files.createTempDirectory("readme");
        Path source = place.resolve("Example.java");
        Files.writeString(source, "public class Example { public static void main(String[] args) {\n"
            + String.join("\n", program) + "\n} }\n");
        int wrong = ToolProvider.getSystemJavaCompiler().run(null, null, null, "-cp",
            System.getProperty("java.class.path"), "-d", place.toString(), source.toString());
        Check.same("README.md compiles", 0, wrong);
        return place;
    }

    private static String printed(Path place) throws Exception {
        PrintStream before = System.out;
        ByteArrayOutputStream all = new ByteArrayOutputStream();
        try (URLClassLoader loader = new URLClassLoader(new URL[] {place.toUri().toURL()})) {
            Method main = loader.loadClass("Example").getMethod("main", String[].class);
            System.setOut(new PrintStream(all, true));
            main.invoke(null, (Object) new String[0]);
        } finally {
            System.setOut(before);
            Files.deleteIfExists(place.resolve("Example.class"));
            Files.deleteIfExists(place.resolve("Example.java"));
            Files.deleteIfExists(place);
        }
        return all.toString().lines().collect(Collectors.joining("\n"));
    }
}
