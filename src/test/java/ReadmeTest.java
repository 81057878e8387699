import java.io.ByteArrayOutputStream;
import java.io.File;
import java.io.IOException;
import java.io.PrintStream;
import java.net.URL;
import java.net.URLClassLoader;
import java.nio.charset.StandardCharsets;
import java.nio.file.Files;
import java.nio.file.Path;
import java.util.ArrayList;
import java.util.Comparator;
import java.util.List;
import java.util.stream.Stream;
import javax.tools.ToolProvider;

/** What README.md says is so: its program prints what it shows, its calls are the document's, its tests are there. */
public final class ReadmeTest {
    public static void main(String[] args) throws Exception {
        String readme = Papers.text(Papers.README);
        program(readme);
        calls(readme);
        tests(readme);
        files(readme);
        Due.end("ReadmeTest");
    }

    /** Compiles the program with the class in a folder of its own, as the page tells, and runs it. */
    private static void program(String readme) throws Exception {
        Path folder = Files.createTempDirectory("readme");
        try {
            Path program = Files.writeString(folder.resolve("Tune.java"), Papers.block(readme, "java"));
            String[] compiling = {"-d", folder.toString(), Papers.SOURCE, program.toString()};
            Due.is("compiling Tune", 0, () -> ToolProvider.getSystemJavaCompiler().run(null, null, null, compiling));
            Due.is("what Tune prints", Papers.block(readme, "text"), () -> printed(folder));
        } finally {
            remove(folder);
        }
    }

    private static String printed(Path folder) {
        PrintStream before = System.out;
        ByteArrayOutputStream printed = new ByteArrayOutputStream();
        URL[] places = {url(folder)};
        try (URLClassLoader loader = new URLClassLoader(places, ClassLoader.getPlatformClassLoader())) {
            System.setOut(new PrintStream(printed, true, StandardCharsets.UTF_8));
            loader.loadClass("Tune").getMethod("main", String[].class).invoke(null, (Object) new String[0]);
        } catch (IOException | ReflectiveOperationException thrown) {
            throw new IllegalStateException(thrown);
        } finally {
            System.setOut(before);
        }
        return printed.toString(StandardCharsets.UTF_8).replace(System.lineSeparator(), "\n");
    }

    private static URL url(Path folder) {
        try {
            return folder.toUri().toURL();
        } catch (IOException thrown) {
            throw new IllegalStateException(thrown);
        }
    }

    private static void remove(Path folder) throws IOException {
        try (Stream<Path> found = Files.walk(folder)) {
            found.sorted(Comparator.reverseOrder()).map(Path::toFile).forEach(File::delete);
        }
    }

    private static void calls(String readme) {
        List<String> due = new ArrayList<>();
        for (String declared : Papers.face()) {
            due.add(Papers.asCall(declared));
        }
        due.remove("OvertureDesk()");
        Due.is("calls that the page shows", due, () -> Papers.found(readme, "(?m)^\\| `(\\w+\\([^`]*\\))` \\|"));
    }

    private static void tests(String readme) throws IOException {
        List<String> there = new ArrayList<>();
        try (Stream<Path> found = Files.list(Path.of(Papers.TESTS))) {
            found.map(one -> one.getFileName().toString()).filter(name -> name.endsWith("Test.java"))
                    .map(name -> name.replace(".java", "")).sorted().forEach(there::add);
        }
        List<String> shown = Papers.found(readme, "(?m)^\\| `(\\w+Test)` \\|");
        shown.sort(Comparator.naturalOrder());
        Due.is("tests that the page shows", there, () -> shown);
        for (String helper : List.of("Due", "Calls", "Desks", "Model", "Papers")) {
            Due.is(helper + " is told of", true, () -> readme.contains("`" + helper + "`"));
            Due.is(helper + " is there", true, () -> Files.exists(Path.of(Papers.TESTS, helper + ".java")));
        }
    }

    private static void files(String readme) {
        for (String path : List.of(Papers.SOURCE, Papers.DOCUMENT, "../shared/LANGUAGE.md", ".ci/run")) {
            Due.is(path + " is told of", true, () -> readme.contains(path));
            Due.is(path + " is there", true, () -> Files.exists(Path.of(path)));
        }
        Due.is(".ci/run can be run", true, () -> Files.isExecutable(Path.of(".ci/run")));
    }
}
