import java.io.ByteArrayOutputStream;
import java.io.IOException;
import java.io.PrintStream;
import java.lang.reflect.Method;
import java.lang.reflect.Modifier;
import java.net.URL;
import java.net.URLClassLoader;
import java.nio.charset.StandardCharsets;
import java.nio.file.Files;
import java.nio.file.Path;
import java.util.Set;
import java.util.TreeSet;
import java.util.regex.Matcher;
import java.util.regex.Pattern;
import java.util.stream.Stream;
import javax.tools.JavaCompiler;
import javax.tools.ToolProvider;

/** README.md: its example prints what it says, and it tells of every test and call. Runs in the root of the project. */
public final class ReadmeTest {
    private static final Path README = Path.of("README.md");
    private static final Path PROGRAM = Path.of("src/main/java/LayeredDrawing.java");
    private static final Path TESTS = Path.of("src/test/java");

    private final Check check = new Check();
    private final String readme;

    private ReadmeTest() throws IOException {
        readme = Files.readString(README);
    }

    public static void main(String[] args) throws IOException, ReflectiveOperationException {
        ReadmeTest test = new ReadmeTest();
        test.check.promise(0, "README.md");
        test.checkExample();
        test.checkTests();
        test.checkCalls();
        test.check.end();
    }

    private void checkExample() throws IOException, ReflectiveOperationException {
        Matcher block = Pattern.compile("(?s)```java\n(.*?)```").matcher(readme);
        check.holds("there is an example", block.find());
        String example = block.group(1);
        check.holds("one example", !block.find());
        StringBuilder want = new StringBuilder();
        Matcher printed = Pattern.compile("System\\.out\\.println\\(.*\\);\\s*// prints (.*)").matcher(example);
        while (printed.find()) {
            want.append(printed.group(1)).append('\n');
        }
        check.holds("the example prints what it says", want.length() > 0 && outputOf(example).equals(want.toString()));
    }

    private String outputOf(String example) throws IOException, ReflectiveOperationException {
        Path directory = Files.createTempDirectory("readme");
        Path file = directory.resolve("Example.java");
        Files.writeString(file, "public final class Example {\npublic static void main(String[] args) {\n" + example + "}\n}\n");
        JavaCompiler compiler = ToolProvider.getSystemJavaCompiler();
        int result = compiler.run(null, null, null, "-d", directory.toString(), PROGRAM.toString(), file.toString());
        check.due("javac of the example", result, 0);
        String output = result == 0 ? outputOfMain(directory) : "";
        removeAll(directory);
        return output;
    }

    private static String outputOfMain(Path directory) throws IOException, ReflectiveOperationException {
        PrintStream before = System.out;
        ByteArrayOutputStream bytes = new ByteArrayOutputStream();
        URL[] urls = {directory.toUri().toURL()};
        try (URLClassLoader loader = new URLClassLoader(urls, ClassLoader.getPlatformClassLoader())) {
            System.setOut(new PrintStream(bytes, true, StandardCharsets.UTF_8));
            loader.loadClass("Example").getMethod("main", String[].class).invoke(null, (Object) new String[0]);
        } finally {
            System.setOut(before);
        }
        return bytes.toString(StandardCharsets.UTF_8).replace("\r\n", "\n");
    }

    private static void removeAll(Path directory) throws IOException {
        try (Stream<Path> files = Files.list(directory)) {
            for (Path file : files.toList()) {
                Files.delete(file);
            }
        }
        Files.delete(directory);
    }

    private void checkTests() throws IOException {
        Set<String> there = new TreeSet<>();
        try (Stream<Path> files = Files.list(TESTS)) {
            for (Path file : files.toList()) {
                String name = file.getFileName().toString().replace(".java", "");
                check.holds("README.md names " + name, readme.contains("`" + name + "`"));
                there.add(name);
            }
        }
        Matcher named = Pattern.compile("(?m)^- `(\\w+Test)`:").matcher(readme);
        while (named.find()) {
            check.holds(named.group(1) + " is there", there.contains(named.group(1)));
        }
    }

    private void checkCalls() {
        for (Method method : LayeredDrawing.class.getDeclaredMethods()) {
            if (Modifier.isPublic(method.getModifiers())) {
                check.holds("README.md names " + method.getName(), readme.contains("`" + method.getName() + "`"));
            }
        }
    }
}
