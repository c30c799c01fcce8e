import java.io.ByteArrayOutputStream;
import java.io.PrintStream;
import java.lang.reflect.Field;
import java.lang.reflect.Method;
import java.lang.reflect.Modifier;
import java.net.URL;
import java.net.URLClassLoader;
import java.nio.file.Files;
import java.nio.file.Path;
import java.util.Comparator;
import java.util.List;
import java.util.TreeSet;
import java.util.regex.Matcher;
import java.util.regex.Pattern;
import java.util.stream.Stream;
import javax.tools.ToolProvider;

/** What README.md says holds: its examples, and the calls, exceptions and tests that it names. */
public final class ReadmeTest {
    private static final Path TESTS = Path.of("src/test/java");

    public static void main(String[] args) throws Exception {
        String readme = Files.readString(Path.of("README.md"));
        Check.same("what the example prints", printed(block(readme, "java", 0)), block(readme, "text", 0));
        Check.same("rounds of the text", Check.game(block(readme, "text", 1)).roundCount(), 2);
        namesTheFace(readme);
        namesTheTests(readme);
        Check.end();
    }

    /** The block of this language with this index. */
    private static String block(String readme, String language, int index) {
        Matcher block = Pattern.compile("(?ms)^```" + language + "\n(.*?)^```$").matcher(readme);
        for (int i = 0; i <= index; i++) {
            if (!block.find()) {
                throw new AssertionError("README.md has no block of " + language + " with the index " + index);
            }
        }
        return block.group(1);
    }

    private static String printed(String source) throws Exception {
        Path directory = Files.createTempDirectory("readme");
        try {
            Path file = Files.writeString(directory.resolve("Example.java"), source);
            int code = ToolProvider.getSystemJavaCompiler().run(null, null, null, "-d", directory.toString(),
                    "-cp", System.getProperty("java.class.path"), file.toString());
            return code == 0 ? run(directory) : "nothing, as it does not compile";
        } finally {
            delete(directory);
        }
    }

    private static String run(Path directory) throws Exception {
        PrintStream console = System.out;
        ByteArrayOutputStream printed = new ByteArrayOutputStream();
        System.setOut(new PrintStream(printed, true));
        try (URLClassLoader loader = new URLClassLoader(new URL[] {directory.toUri().toURL()})) {
            Method main = loader.loadClass("Example").getMethod("main", String[].class);
            main.invoke(null, (Object) new String[0]);
        } finally {
            System.setOut(console);
        }
        return printed.toString().replace(System.lineSeparator(), "\n");
    }

    private static void delete(Path directory) throws Exception {
        try (Stream<Path> files = Files.walk(directory)) {
            for (Path file : files.sorted(Comparator.reverseOrder()).toList()) {
                Files.delete(file);
            }
        }
    }

    private static void namesTheFace(String readme) {
        for (Method method : DominoChains.class.getDeclaredMethods()) {
            if (Modifier.isPublic(method.getModifiers())) {
                names(readme, method.getName());
            }
            for (Class<?> thrown : method.getExceptionTypes()) {
                names(readme, thrown.getSimpleName());
            }
        }
        for (Field field : DominoChains.class.getFields()) {
            names(readme, field.getName());
        }
    }

    private static void names(String readme, String name) {
        Check.same("README.md names " + name, readme.contains("`" + name + "`"), true);
    }

    private static void namesTheTests(String readme) throws Exception {
        TreeSet<String> named = new TreeSet<>();
        Matcher row = Pattern.compile("(?m)^\\| `(\\w+Test)` \\|").matcher(readme);
        while (row.find()) {
            named.add(row.group(1) + ".java");
        }
        TreeSet<String> standing = new TreeSet<>();
        try (Stream<Path> files = Files.list(TESTS)) {
            List<String> all = files.map(file -> file.getFileName().toString()).toList();
            all.stream().filter(name -> name.endsWith("Test.java")).forEach(standing::add);
            Check.same("README.md names the tests", named, standing);
            Check.same("the other files that it names", all.containsAll(List.of("Reference.java", "View.java")), true);
        }
    }
}
