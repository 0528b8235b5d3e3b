import java.io.IOException;
import java.net.URL;
import java.net.URLClassLoader;
import java.nio.file.Files;
import java.nio.file.Path;
import java.util.ArrayList;
import java.util.List;
import java.util.regex.Matcher;
import java.util.regex.Pattern;
import javax.tools.ToolProvider;

/** The example of README.md compiles, and its lines answer the numbers that stand behind them. */
public final class ReadmeTest {
    private static final Due DUE = new Due("README.md");
    private static final Pattern EXAMPLE = Pattern.compile("```java\n(.*?)```", Pattern.DOTALL);
    private static final Pattern ANSWER = Pattern.compile("(?m)^(?:int|long) (\\w+) = .*; +// (-?\\d+)$");

    public static void main(String[] args) throws IOException, ReflectiveOperationException {
        Matcher example = EXAMPLE.matcher(Files.readString(Path.of("README.md")));
        DUE.yes("there is an example", example.find());
        String lines = example.group(1);
        List<String> names = new ArrayList<>();
        List<Long> answers = new ArrayList<>();
        Matcher answer = ANSWER.matcher(lines);
        while (answer.find()) {
            names.add(answer.group(1));
            answers.add(Long.valueOf(answer.group(2)));
        }
        long[] got = run(lines, names);
        for (int i = 0; i < got.length; i++) {
            DUE.same(names.get(i), got[i], answers.get(i));
        }
        DUE.same("how many lines tell their answer", got.length, 12);
        DUE.yes("it says how to run the tests", Files.readString(Path.of("README.md")).contains(".ci/run"));
        DUE.end();
    }

    private static long[] run(String lines, List<String> names) throws IOException, ReflectiveOperationException {
        Path made = Files.createTempDirectory("readme");
        Path source = made.resolve("Example.java");
        try {
            Files.writeString(source, "public final class Example { public static long[] answers() {\n" + lines
                + "return new long[] {" + String.join(", ", names) + "}; } }\n");
            DUE.same("javac of the example", ToolProvider.getSystemJavaCompiler().run(null, null, null,
                "-cp", System.getProperty("java.class.path"), "-d", made.toString(), source.toString()), 0);
            try (URLClassLoader loader = new URLClassLoader(new URL[] {made.toUri().toURL()})) {
                return (long[]) loader.loadClass("Example").getMethod("answers").invoke(null);
            }
        } finally {
            Files.deleteIfExists(source);
            Files.deleteIfExists(made.resolve("Example.class"));
            Files.deleteIfExists(made);
        }
    }
}
