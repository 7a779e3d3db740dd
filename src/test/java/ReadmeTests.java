import java.io.ByteArrayOutputStream;
import java.io.File;
import java.io.IOException;
import java.io.PrintStream;
import java.lang.reflect.Method;
import java.net.URL;
import java.net.URLClassLoader;
import java.nio.charset.StandardCharsets;
import java.nio.file.Files;
import java.nio.file.Path;
import java.util.ArrayList;
import java.util.List;
import java.util.regex.Matcher;
import java.util.regex.Pattern;
import javax.tools.ToolProvider;

/** The example of README.md prints what its comments say, and README.md names every call and every suite. */
final class ReadmeTests {
    private ReadmeTests() {
    }

    public static void main(String[] args) throws IOException, ReflectiveOperationException {
        String readme = Files.readString(Path.of("README.md"), StandardCharsets.UTF_8);
        example(readme);
        Check.part("README.md names");
        for (Method method : WineCooperative.class.getMethods()) {
            if (method.getDeclaringClass() == WineCooperative.class) {
                Check.holds(method.getName(), readme.contains("`" + method.getName() + "`"));
            }
        }
        for (Class<?> inside : WineCooperative.class.getDeclaredClasses()) {
            Check.holds(inside.getSimpleName(), readme.contains("`" + inside.getSimpleName() + "`"));
        }
        for (String suite : new File("src/test/java").list((folder, file) -> file.endsWith("Tests.java"))) {
            Check.holds(suite, readme.contains("`" + suite.replace(".java", "") + "`"));
        }
        Check.finish("ReadmeTests");
    }

    private static void example(String readme) throws IOException, ReflectiveOperationException {
        Check.part("the example of README.md");
        Matcher block = Pattern.compile("(?s)```java\n(.*?)```").matcher(readme);
        Check.holds("is there", block.find());
        List<String> due = new ArrayList<>();
        Matcher line = Pattern.compile("System\\.out\\.println\\(.*\\); // (.*)").matcher(block.group(1));
        while (line.find()) {
            due.add(line.group(1));
        }
        Check.holds("prints something", !due.isEmpty());
        Path folder = Files.createTempDirectory("readme");
        try {
            Path file = Files.writeString(folder.resolve("Example.java"), block.group(1));
            int failed = ToolProvider.getSystemJavaCompiler().run(null, null, null, "-encoding", "UTF-8",
                    "-cp", System.getProperty("java.class.path"), "-d", folder.toString(), file.toString());
            Check.same("javac", failed, 0);
            Check.same("prints", printed(folder), due);
        } finally {
            for (File left : folder.toFile().listFiles()) {
                left.delete();
            }
            folder.toFile().delete();
        }
    }

    private static List<String> printed(Path folder) throws IOException, ReflectiveOperationException {
        ByteArrayOutputStream bytes = new ByteArrayOutputStream();
        PrintStream before = System.out;
        System.setOut(new PrintStream(bytes, true, StandardCharsets.UTF_8));
        try (URLClassLoader loader = new URLClassLoader(new URL[] {folder.toUri().toURL()})) {
            Object none = new String[0];
            loader.loadClass("Example").getMethod("main", String[].class).invoke(null, none);
        } finally {
            System.setOut(before);
        }
        return bytes.toString(StandardCharsets.UTF_8).lines().toList();
    }
}
