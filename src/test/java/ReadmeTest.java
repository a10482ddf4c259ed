import java.io.IOException;
import java.net.URL;
import java.net.URLClassLoader;
import java.nio.file.Files;
import java.nio.file.Path;
import java.util.List;
import java.util.regex.Matcher;
import java.util.regex.Pattern;
import javax.tools.ToolProvider;

// The examples of README.md: all of them are put into one method in their order, compiled against Pc32, and run. A call whose
// comment begins with a value, at the end of the line or before a colon, has to answer that value.
public final class ReadmeTest {
    private static final Pattern CALL = Pattern.compile("(pc\\.\\w+\\(.*\\)); +// (-?\\w+(?:\\.\\w+)?)(?::.*)?");
    private static final String NAME = "ReadmeExamples";
    private static int calls = 0;

    private static String statement(String line) {
        Matcher matcher = CALL.matcher(line);
        if (!matcher.matches()) return line;
        calls++;
        String wrong = "{ wrong++; System.out.println(\"README.md, not as due: " + line.replace("\"", "'") + "\"); }";
        return "if (" + matcher.group(1) + " != " + matcher.group(2) + ") " + wrong;
    }

    private static String program(List<String> lines) {
        StringBuilder text = new StringBuilder("public class " + NAME + " {\npublic static int run() {\nint wrong = 0;\n");
        boolean inside = false;
        for (String line : lines) {
            if (line.startsWith("```")) inside = line.equals("```java");
            else if (inside) text.append(statement(line)).append('\n');
        }
        return text.append("return wrong;\n}\n}\n").toString();
    }

    private static int wrongAnswers(Path directory, Path source) throws IOException, ReflectiveOperationException {
        String classes = System.getProperty("java.class.path");
        String[] options = {"-cp", classes, "-d", directory.toString(), source.toString()};
        int refused = ToolProvider.getSystemJavaCompiler().run(null, null, null, options);
        Expect.same("the compiler, given the examples,", refused, 0);
        if (refused != 0) return -1;
        try (URLClassLoader loader = new URLClassLoader(new URL[] {directory.toUri().toURL()})) {
            return (int) loader.loadClass(NAME).getMethod("run").invoke(null);
        }
    }

    public static void main(String[] args) throws IOException, ReflectiveOperationException {
        Path directory = Files.createTempDirectory("readme");
        Path source = directory.resolve(NAME + ".java");
        Files.writeString(source, program(Files.readAllLines(Path.of("README.md"))));
        Expect.yes(calls + " calls of the examples are looked at, at least 20", calls >= 20);
        Expect.same("the number of wrong answers in the examples", wrongAnswers(directory, source), 0);
        Files.deleteIfExists(directory.resolve(NAME + ".class"));
        Files.delete(source);
        Files.delete(directory);
        Expect.end("ReadmeTest");
    }
}
