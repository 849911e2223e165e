import java.io.ByteArrayOutputStream;
import java.io.IOException;
import java.io.PrintStream;
import java.lang.reflect.InvocationTargetException;
import java.net.URL;
import java.net.URLClassLoader;
import java.nio.charset.StandardCharsets;
import java.nio.file.Files;
import java.nio.file.Path;
import java.util.Arrays;
import java.util.Comparator;
import java.util.List;
import java.util.TreeSet;
import java.util.stream.Stream;
import javax.tools.JavaCompiler;
import javax.tools.ToolProvider;

/** README.md: its example prints what stands behind it, and it names each call of the face and each test. */
public final class ReadmeTest {
    private static final Path README = Path.of("README.md");
    private static final Path TESTS = Path.of("src/test/java");

    public static void main(String[] args) throws Exception {
        String readme = Files.readString(README);
        example(block(readme, "java"), block(readme, "text"));
        calls(readme);
        tests(readme);
        Check.end("ReadmeTest");
    }

    private static String block(String readme, String kind) {
        String open = "\n```" + kind + "\n";
        int from = readme.indexOf(open);
        int to = readme.indexOf("\n```", from + open.length());
        Check.due("README.md has a block of " + kind, from >= 0 && to >= 0, true);
        return from < 0 || to < 0 ? "" : readme.substring(from + open.length(), to + 1);
    }

    private static void example(String source, String want) throws Exception {
        Path dir = Files.createTempDirectory("example");
        try {
            Path file = dir.resolve("Example.java");
            Files.writeString(file, source);
            JavaCompiler compiler = ToolProvider.getSystemJavaCompiler();
            String path = System.getProperty("java.class.path");
            int code = compiler.run(null, null, null, "-cp", path, "-d", dir.toString(), file.toString());
            Check.due("the example compiles", code, 0);
            String got = code == 0 ? printed(dir) : "";
            Check.due("the example prints\n" + got, got.equals(want), true);
        } finally {
            remove(dir);
        }
    }

    private static String printed(Path dir) throws Exception {
        ByteArrayOutputStream bytes = new ByteArrayOutputStream();
        PrintStream before = System.out;
        try (URLClassLoader loader = new URLClassLoader(new URL[] {dir.toUri().toURL()})) {
            System.setOut(new PrintStream(bytes, true, StandardCharsets.UTF_8));
            loader.loadClass("Example").getMethod("main", String[].class)
                    .invoke(null, (Object) new String[0]);
        } catch (InvocationTargetException e) {
            return e.getCause().toString();
        } finally {
            System.setOut(before);
        }
        return bytes.toString(StandardCharsets.UTF_8).replace("\r", "");
    }

    private static void remove(Path dir) throws IOException {
        try (Stream<Path> all = Files.walk(dir)) {
            List<Path> deepestFirst = all.sorted(Comparator.reverseOrder()).toList();
            for (Path each : deepestFirst) {
                Files.delete(each);
            }
        }
    }

    private static void calls(String readme) {
        TreeSet<String> names = new TreeSet<>();
        Arrays.stream(StoneDates.class.getMethods())
                .filter(m -> m.getDeclaringClass() == StoneDates.class)
                .forEach(m -> names.add(m.getName()));
        for (String name : names) {
            Check.due("README.md tells of " + name, readme.contains("| `" + name + "("), true);
        }
    }

    private static void tests(String readme) throws IOException {
        try (Stream<Path> files = Files.list(TESTS)) {
            for (Path file : files.sorted().toList()) {
                String name = file.getFileName().toString().replace(".java", "");
                Check.due("README.md tells of " + name, readme.contains("| " + name + " |")
                        || readme.contains("`" + name + "`"), true);
            }
        }
    }
}
