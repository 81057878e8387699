import java.io.IOException;
import java.io.UncheckedIOException;
import java.nio.file.Files;
import java.nio.file.Path;
import java.util.ArrayList;
import java.util.List;
import java.util.regex.Matcher;
import java.util.regex.Pattern;

/** The texts that tests look at: the document, README.md and the source. Tests run in the project's folder. */
final class Papers {
    static final String DOCUMENT = "../shared/DOC.md";
    static final String README = "README.md";
    static final String SOURCE = "src/main/java/OvertureDesk.java";
    static final String TESTS = "src/test/java";

    private Papers() {
    }

    static String text(String path) {
        try {
            return Files.readString(Path.of(path));
        } catch (IOException thrown) {
            throw new UncheckedIOException(thrown);
        }
    }

    /** What stands between a line ```language and the next line ```, the first time. */
    static String block(String text, String language) {
        return found(text, "(?ms)^```" + language + "\n(.*?)^```$").get(0);
    }

    /** The first group of each place where a pattern is found. */
    static List<String> found(String text, String pattern) {
        List<String> found = new ArrayList<>();
        Matcher matcher = Pattern.compile(pattern).matcher(text);
        while (matcher.find()) {
            found.add(matcher.group(1));
        }
        return found;
    }

    /** The constructor and the methods of the document's face, as it declares them, without the ending. */
    static List<String> face() {
        return found(block(text(DOCUMENT), "java"), "(?m)^    public (.*);$");
    }

    /** The name of a declared method, and the names of its parameters. */
    static String asCall(String declared) {
        String head = declared.replaceAll("\\).*", ")");
        String name = head.replaceAll("\\(.*", "").replaceAll(".* ", "");
        String given = head.replaceAll(".*\\(", "(").replaceAll("\\b(int|long|boolean|double) ", "");
        return name + given;
    }
}
