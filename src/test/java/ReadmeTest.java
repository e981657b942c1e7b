import java.io.IOException;
import java.io.StringWriter;
import java.net.URL;
import java.net.URLClassLoader;
import java.nio.file.Files;
import java.nio.file.Path;
import java.util.Comparator;
import java.util.List;
import java.util.regex.Matcher;
import java.util.regex.Pattern;
import java.util.stream.Stream;
import javax.tools.JavaCompiler;
import javax.tools.StandardJavaFileManager;
import javax.tools.ToolProvider;

/** README.md's examples, as one program: each call answers the number that stands behind it. */
public final class ReadmeTest {
    private static final Pattern BLOCK = Pattern.compile("(?s)```java\n(.*?)```");
    private static final Pattern ANSWER = Pattern.compile("(?m)^(post\\.\\w+\\([^;]*\\)); *// (-?\\d+)\\b.*$");
    private static int asked = 0;
    private static int wrong = 0;

    public static void due(String call, long got, long want) {
        asked++;
        if (got != want) {
            wrong++;
            System.out.println("README.md: " + call + " answered " + got + ", it says " + want);
        }
    }

    private static String examples(String readme) {
        StringBuilder all = new StringBuilder();
        Matcher m = BLOCK.matcher(readme);
        while (m.find()) all.append(m.group(1));
        return all.toString();
    }

    private static String program(String examples) {
        String body = ANSWER.matcher(examples).replaceAll(m -> Matcher.quoteReplacement(
            "ReadmeTest.due(\"" + m.group(1) + "\", " + m.group(1) + ", " + m.group(2) + "L);"));
        return "public final class Example { public static void main(String[] args) {\n" + body + "} }\n";
    }

    private static void compile(Path dir, String program) throws IOException {
        Path source = dir.resolve("Example.java");
        Files.writeString(source, program);
        JavaCompiler compiler = ToolProvider.getSystemJavaCompiler();
        StringWriter said = new StringWriter();
        try (StandardJavaFileManager files = compiler.getStandardFileManager(null, null, null)) {
            List<String> options = List.of("-cp", System.getProperty("java.class.path"), "-d", dir.toString());
            if (!compiler.getTask(said, files, null, options, null, files.getJavaFileObjects(source)).call()) {
                wrong++;
                System.out.println("README.md's examples do not compile: " + said);
            }
        }
    }

    private static void run(Path dir) throws IOException, ReflectiveOperationException {
        try (URLClassLoader loader = new URLClassLoader(new URL[] {dir.toUri().toURL()}, ReadmeTest.class.getClassLoader())) {
            loader.loadClass("Example").getMethod("main", String[].class).invoke(null, (Object) new String[0]);
        }
    }

    private static void delete(Path dir) throws IOException {
        try (Stream<Path> all = Files.walk(dir)) {
            for (Path p : all.sorted(Comparator.reverseOrder()).toList()) Files.delete(p);
        }
    }

    public static void main(String[] args) throws IOException, ReflectiveOperationException {
        String examples = examples(Files.readString(Path.of("README.md")));
        Path dir = Files.createTempDirectory("readme");
        try {
            compile(dir, program(examples));
            if (wrong == 0) run(dir);
        } finally {
            delete(dir);
        }
        // A call that says no answer would be run but not looked at.
        long calls = examples.lines().filter(line -> line.startsWith("post.")).count();
        if (asked != calls || asked == 0) {
            wrong++;
            System.out.println("README.md has " + calls + " calls, " + asked + " of them were asked");
        }
        System.out.println(wrong == 0 ? "README.md's " + asked + " calls answer as it says" : wrong + " faults in README.md");
        if (wrong != 0) System.exit(1);
    }
}
