import java.lang.reflect.Method;
import java.net.URL;
import java.net.URLClassLoader;
import java.nio.file.Files;
import java.nio.file.Path;
import java.util.regex.Matcher;
import java.util.regex.Pattern;
import java.util.spi.ToolProvider;

/** README.md's example: it compiles, and each call in it answers what stands behind it; run in the project's folder. */
public final class ReadmeTest {
    private static final Check CHECK = new Check("ReadmeTest");
    private static final Pattern EXAMPLE = Pattern.compile("(?s)```java\n(.*?)```");
    private static final Pattern CALL = Pattern.compile("(x\\.\\w+\\(.*\\)); +// (-?\\d+): .*");

    public static void main(String[] args) throws Exception {
        Matcher example = EXAMPLE.matcher(Files.readString(Path.of("README.md")));
        boolean stands = example.find();
        CHECK.due("README.md has an example", 1, stands ? 1 : 0);
        if (stands) {
            run(programOf(example.group(1)));
        }
        CHECK.end();
    }

    /** The example's lines, those with an answer as calls of due. */
    private static String programOf(String example) {
        StringBuilder program = new StringBuilder("public final class Example {\npublic static void go() {\n");
        int answers = 0;
        for (String line : example.split("\n")) {
            Matcher call = CALL.matcher(line);
            if (call.matches()) {
                answers++;
                program.append("ReadmeTest.due(\"").append(call.group(1)).append("\", ").append(call.group(2))
                    .append(", ").append(call.group(1)).append(");\n");
            } else {
                CHECK.due("an answer that is told otherwise: " + line, 0, line.contains("//") ? 1 : 0);
                program.append(line).append('\n');
            }
        }
        CHECK.due("the example tells answers", 1, answers > 0 ? 1 : 0);
        return program.append("}\n}\n").toString();
    }

    private static void run(String program) throws Exception {
        Path folder = Files.createTempDirectory("readme");
        Path source = folder.resolve("Example.java");
        Files.writeString(source, program);
        ToolProvider javac = ToolProvider.findFirst("javac").orElseThrow();
        String path = System.getProperty("java.class.path");
        int code = javac.run(System.out, System.out, "-cp", path, "-d", folder.toString(), source.toString());
        CHECK.due("compiling the example", 0, code);
        if (code == 0) {
            try (URLClassLoader loader = new URLClassLoader(new URL[] {folder.toUri().toURL()})) {
                Method go = loader.loadClass("Example").getMethod("go");
                go.invoke(null);
            }
        }
        Files.deleteIfExists(folder.resolve("Example.class"));
        Files.delete(source);
        Files.delete(folder);
    }

    public static void due(String call, long want, long got) {
        CHECK.due(call, want, got);
    }
}
