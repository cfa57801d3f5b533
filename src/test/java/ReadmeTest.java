import java.io.IOException;
import java.lang.reflect.Method;
import java.lang.reflect.Modifier;
import java.net.URL;
import java.net.URLClassLoader;
import java.nio.file.Files;
import java.nio.file.Path;
import java.util.ArrayList;
import java.util.List;
import java.util.regex.Matcher;
import java.util.regex.Pattern;
import java.util.stream.Stream;
import javax.tools.ToolProvider;

/** README.md: its program answers what its comments say, and it names all calls and tests. */
public final class ReadmeTest extends Checks {
    private static final Path README = Path.of("README.md");
    private static final Pattern TOLD = Pattern.compile("(?:int|long) (\\w+) = .*; +// (-?\\d+).*");

    public static void main(String[] args) throws IOException, ReflectiveOperationException {
        String readme = Files.readString(README);
        namesEachCall(readme);
        namesEachTest(readme);
        programAnswersAsTold(readme);
        end();
    }

    private static void namesEachCall(String readme) {
        for (Method method : GameTables.class.getDeclaredMethods()) {
            if (Modifier.isPublic(method.getModifiers())) {
                sentence("README.md names " + method.getName());
                due(1, readme.contains("`" + method.getName() + "(") ? 1 : 0);
            }
        }
    }

    private static void namesEachTest(String readme) throws IOException {
        try (Stream<Path> files = Files.list(Path.of("src/test/java"))) {
            for (Path file : files.filter(f -> f.toString().endsWith("Test.java")).toList()) {
                sentence("README.md names " + file.getFileName());
                due(1, readme.contains(file.getFileName().toString()) ? 1 : 0);
            }
        }
    }

    private static void programAnswersAsTold(String readme) throws IOException, ReflectiveOperationException {
        List<String> lines = readme.lines().toList();
        int start = lines.indexOf("```java") + 1;
        int end = start + lines.subList(start, lines.size()).indexOf("```");
        StringBuilder program = new StringBuilder("public class Program { public static void run(java.util.List<long[]> told) {\n");
        int answers = 0;
        for (String line : lines.subList(start, end)) {
            program.append(line).append('\n');
            Matcher told = TOLD.matcher(line);
            if (told.matches()) {
                program.append("told.add(new long[] {").append(told.group(2)).append(", ").append(told.group(1)).append("});\n");
                answers++;
            }
        }
        List<long[]> told = new ArrayList<>();
        run(program.append("} }\n").toString(), told);
        sentence("README.md's program");
        // None of its lines is passed over because it is laid out in another way.
        due(program.toString().split(" = x\\.").length - 1, answers);
        due(answers, told.size());
        for (long[] pair : told) {
            due(pair[0], pair[1]);
        }
    }

    private static void run(String program, List<long[]> told) throws IOException, ReflectiveOperationException {
        Path directory = Files.createTempDirectory("readme");
        Path source = directory.resolve("Program.java");
        Files.writeString(source, program);
        sentence("README.md's program compiles");
        due(0, ToolProvider.getSystemJavaCompiler().run(null, null, null,
            "-cp", System.getProperty("java.class.path"), "-d", directory.toString(), source.toString()));
        try (URLClassLoader loader = new URLClassLoader(new URL[] {directory.toUri().toURL()}, ReadmeTest.class.getClassLoader())) {
            loader.loadClass("Program").getMethod("run", List.class).invoke(null, told);
        }
        Files.delete(directory.resolve("Program.class"));
        Files.delete(source);
        Files.delete(directory);
    }
}
