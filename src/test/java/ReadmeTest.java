import java.io.ByteArrayOutputStream;
import java.io.IOException;
import java.io.PrintStream;
import java.lang.reflect.Method;
import java.net.URL;
import java.net.URLClassLoader;
import java.nio.charset.StandardCharsets;
import java.nio.file.Files;
import java.nio.file.Path;
import java.util.ArrayList;
import java.util.List;
import java.util.regex.Matcher;
import java.util.regex.Pattern;
import javax.tools.ToolProvider;

/** README.md's program compiles, and prints what stands behind its lines. */
public final class ReadmeTest {
    private static final String BEGIN = "```java\n";
    private static final String END = "```\n";

    public static void main(String[] args) throws IOException, ReflectiveOperationException {
        String readme = Files.readString(Path.of("README.md"));
        int from = readme.indexOf(BEGIN) + BEGIN.length();
        String program = readme.substring(from, readme.indexOf(END, from));
        List<String> due = told(program);
        List<String> printed = run(program);
        Due.is("lines printed", printed.size(), due.size());
        for (int i = 0; i < due.size() && i < printed.size(); i++) {
            Due.is("line " + i + ": " + printed.get(i) + " is " + due.get(i), printed.get(i).equals(due.get(i)), true);
        }
        everyCallIsNamed(readme);
        Due.end();
    }

    private static List<String> told(String program) {
        List<String> due = new ArrayList<>();
        Matcher answers = Pattern.compile("println\\(.*// (-?[0-9]+|true|false): ").matcher(program);
        while (answers.find()) {
            due.add(answers.group(1));
        }
        return due;
    }

    private static List<String> run(String program) throws IOException, ReflectiveOperationException {
        Path place = Files.createTempDirectory("readme");
        Path source = place.resolve("Example.java");
        Path compiled = place.resolve("Example.class");
        Files.writeString(source, program);
        String classes = System.getProperty("java.class.path");
        int wrong = ToolProvider.getSystemJavaCompiler().run(null, null, null, "-Xlint:all", "-Werror", "-proc:none",
            "-cp", classes, "-d", place.toString(), source.toString());
        Due.is("compiling the program", wrong, 0);
        List<String> lines = wrong == 0 ? printedBy(place) : List.of();
        Files.deleteIfExists(compiled);
        Files.delete(source);
        Files.delete(place);
        return lines;
    }

    private static List<String> printedBy(Path place) throws IOException, ReflectiveOperationException {
        PrintStream out = System.out;
        ByteArrayOutputStream caught = new ByteArrayOutputStream();
        try (URLClassLoader loader = new URLClassLoader(new URL[] {place.toUri().toURL()})) {
            Method main = loader.loadClass("Example").getMethod("main", String[].class);
            System.setOut(new PrintStream(caught, true, StandardCharsets.UTF_8));
            main.invoke(null, (Object) new String[0]);
        } finally {
            System.setOut(out);
        }
        return caught.toString(StandardCharsets.UTF_8).lines().toList();
    }

    private static void everyCallIsNamed(String readme) {
        for (Method method : SafeSenate.class.getDeclaredMethods()) {
            if (java.lang.reflect.Modifier.isPublic(method.getModifiers())) {
                String name = method.getName();
                Due.is("README.md names " + name, readme.contains("`" + name + "`") || readme.contains("`" + name + "("), true);
            }
        }
    }
}
