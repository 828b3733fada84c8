import java.io.IOException;
import java.net.URL;
import java.net.URLClassLoader;
import java.nio.file.Files;
import java.nio.file.Path;
import java.util.function.ObjLongConsumer;
import java.util.regex.Matcher;
import java.util.regex.Pattern;
import javax.tools.ToolProvider;

/** The example of README.md: each call in it answers the number that its comment begins with. */
public final class ReadmeTest {
    private static final Pattern CALL = Pattern.compile("(?:int (\\w+) = )?(book\\.\\w+\\(.*\\)); +// (-?\\d+)[: ].*");

    public static void main(String[] args) throws IOException, ReflectiveOperationException {
        Matcher example = Pattern.compile("(?s)```java\n(.*?)```").matcher(Files.readString(Path.of("README.md")));
        Check.isTrue("README.md has an example", example.find());
        Path out = Files.createTempDirectory("readme");
        Path source = Files.writeString(out.resolve("Example.java"), programOf(example.group(1)));
        String classes = System.getProperty("java.class.path");
        int failed = ToolProvider.getSystemJavaCompiler().run(null, null, null, "-cp", classes, "-d", out.toString(),
            source.toString());
        Check.due("compiling the example", failed, 0);
        if (failed == 0) run(out);
        for (String name : new String[] {"Example.class", "Example.java", ""}) {
            Files.deleteIfExists(out.resolve(name));
        }
        Check.end();
    }

    private static String programOf(String example) {
        StringBuilder program = new StringBuilder("public final class Example {\n    public static void check(");
        program.append("java.util.function.ObjLongConsumer<String> got) {\n");
        for (String line : example.split("\n")) {
            Matcher call = CALL.matcher(line);
            if (!call.matches()) {
                Check.isTrue("a comment tells the answer: " + line, !line.contains("book."));
                program.append(line).append('\n');
                continue;
            }
            if (call.group(1) != null) program.append("int ").append(call.group(1)).append(" = ").append(call.group(3));
            program.append(";\n");
            String told = call.group(2) + " == " + call.group(3);
            program.append("got.accept(\"").append(told).append("\", ").append(call.group(2)).append(");\n");
        }
        return program.append("}\n}\n").toString();
    }

    private static void run(Path out) throws IOException, ReflectiveOperationException {
        int[] calls = {0};
        ObjLongConsumer<String> got = (told, answer) -> {
            calls[0]++;
            Check.due(told, answer, Long.parseLong(told.replaceFirst(".* == ", "")));
        };
        try (URLClassLoader loader = new URLClassLoader(new URL[] {out.toUri().toURL()})) {
            loader.loadClass("Example").getMethod("check", ObjLongConsumer.class).invoke(null, got);
        }
        Check.isTrue("the example has calls with answers", calls[0] > 0);
    }
}
