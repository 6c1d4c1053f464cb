import java.io.ByteArrayOutputStream;
import java.io.IOException;
import java.io.PrintStream;
import java.lang.reflect.Field;
import java.lang.reflect.Method;
import java.lang.reflect.Modifier;
import java.net.URL;
import java.net.URLClassLoader;
import java.nio.file.Files;
import java.nio.file.Path;
import java.util.List;
import java.util.regex.Pattern;
import java.util.stream.Collectors;
import java.util.stream.Stream;
import javax.tools.ToolProvider;

/** README.md: its example compiles and prints what stands there, and no call, constant or test is missing. */
final class ReadmeTest {
    private static final Path README = Path.of("README.md");
    private static final Path TESTS = Path.of("src/test/java");

    private static int wrong = 0;
    private static int checked = 0;

    public static void main(String[] args) throws Exception {
        String page = Files.readString(README);
        String example = block(page, "```java\n");
        due("the example prints what the page says", printed(example), block(page, "```text\n"));
        everyMember(page);
        everyTest(page);
        System.out.println("ReadmeTest: " + checked + " checks, " + wrong + " not as due");
        if (wrong != 0) {
            System.exit(1);
        }
    }

    private static void due(String what, String got, String want) {
        checked++;
        if (!got.equals(want)) {
            wrong++;
            System.out.println("not as due: " + what + "\n" + got + "\nbut is due:\n" + want);
        }
    }

    private static void named(String page, String name) {
        due("the page names " + name, Pattern.compile("\\b" + name + "\\b").matcher(page).find() ? "yes" : "no", "yes");
    }

    private static String block(String page, String begin) {
        int from = page.indexOf(begin) + begin.length();
        return page.substring(from, page.indexOf("```", from));
    }

    private static String printed(String example) throws Exception {
        Path place = Files.createTempDirectory("readme");
        Path source = Files.writeString(place.resolve("Example.java"), example);
        int failed = ToolProvider.getSystemJavaCompiler().run(null, null, null, "-Xlint:all", "-Werror", "-d", place.toString(),
            "-cp", System.getProperty("java.class.path"), source.toString());
        String output = failed == 0 ? run(place) : "the example does not compile";
        remove(place);
        return output;
    }

    private static String run(Path place) throws Exception {
        PrintStream out = System.out;
        ByteArrayOutputStream text = new ByteArrayOutputStream();
        try (URLClassLoader loader = new URLClassLoader(new URL[] {place.toUri().toURL()}); PrintStream kept = new PrintStream(text)) {
            System.setOut(kept);
            loader.loadClass("Example").getMethod("main", String[].class).invoke(null, (Object) new String[0]);
        } finally {
            System.setOut(out);
        }
        return text.toString().replace(System.lineSeparator(), "\n");
    }

    private static void remove(Path place) throws IOException {
        for (Path file : list(place)) {
            Files.delete(file);
        }
        Files.delete(place);
    }

    private static List<Path> list(Path place) throws IOException {
        try (Stream<Path> files = Files.list(place)) {
            return files.collect(Collectors.toList());
        }
    }

    /** Behind the example, for there the tables stand. */
    private static void everyMember(String page) {
        String tables = page.substring(page.indexOf("### Texts"), page.indexOf("## How to run its tests"));
        for (Method m : ContractMachine.class.getDeclaredMethods()) {
            if (Modifier.isPublic(m.getModifiers())) {
                named(tables, m.getName());
            }
        }
        for (Field f : ContractMachine.class.getDeclaredFields()) {
            if (Modifier.isPublic(f.getModifiers())) {
                named(tables, f.getName());
            }
        }
    }

    private static void everyTest(String page) throws IOException {
        String tests = page.substring(page.indexOf("## How to run its tests"), page.indexOf("## How it is built"));
        for (Path file : list(TESTS)) {
            String name = file.getFileName().toString().replace(".java", "");
            if (name.endsWith("Test") || name.endsWith("Sentences")) {
                named(tests, name);
            }
        }
    }

    private ReadmeTest() {
    }
}
