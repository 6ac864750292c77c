import java.io.IOException;
import java.net.URL;
import java.net.URLClassLoader;
import java.nio.file.Files;
import java.nio.file.Path;
import java.util.regex.Matcher;
import java.util.regex.Pattern;
import javax.tools.ToolProvider;

/** The first piece of Java in README.md is made a program: each call has to answer what stands beside it. */
public final class ReadmeTest {
    private static final Path BUILD = Path.of("build/readme");
    private static final Pattern CALL = Pattern.compile("^(int \\w+ = )?(works\\.\\w+\\(.*?\\)); +// (-?\\d+): .*$");
    private static final int LEAST_CALLS = 20;

    public static void main(String[] args) throws IOException, ReflectiveOperationException {
        String program = program(Files.readString(Path.of("README.md")));
        Files.createDirectories(BUILD);
        Path file = Files.writeString(BUILD.resolve("Readme.java"), program);
        int compiled = ToolProvider.getSystemJavaCompiler().run(null, null, null, "-cp",
            System.getProperty("java.class.path"), "-d", BUILD.toString(), file.toString());
        Due.due("javac of the calls in README.md", compiled, 0);
        if (compiled == 0) {
            URL[] folders = {BUILD.toUri().toURL()};
            try (URLClassLoader loader = new URLClassLoader(folders)) {
                loader.loadClass("Readme").getMethod("calls").invoke(null);
            }
        }
        Due.end();
    }

    private static String program(String readme) {
        String[] parts = readme.split("```java\n|```\n");
        StringBuilder program = new StringBuilder("public final class Readme {\n  public static void calls() {\n");
        int calls = 0;
        for (String line : (parts.length < 2 ? "" : parts[1]).split("\n")) {
            Matcher call = CALL.matcher(line);
            if (call.matches()) {
                calls++;
                program.append("    long answer").append(calls).append(" = ").append(call.group(2)).append(";\n");
                if (call.group(1) != null) {
                    program.append("    ").append(call.group(1)).append("(int) answer").append(calls).append(";\n");
                }
                program.append("    ReadmeTest.answer(\"").append(call.group(2)).append("\", answer").append(calls)
                    .append(", ").append(call.group(3)).append("L);\n");
            } else {
                program.append("    ").append(line).append('\n');
            }
        }
        Due.due("calls with an answer in README.md", calls >= LEAST_CALLS ? 1 : 0, 1);
        return program.append("  }\n}\n").toString();
    }

    public static void answer(String call, long got, long want) {
        Due.due("README.md: " + call, got, want);
    }
}
