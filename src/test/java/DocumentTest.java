import java.util.ArrayList;
import java.util.List;

/** The source declares, to the word and in the same order, what the document shows. */
public final class DocumentTest {
    public static void main(String[] args) {
        String document = Papers.text(Papers.DOCUMENT);
        String source = Papers.text(Papers.SOURCE);
        Due.is("calls of the face, with the constructor", 38, () -> Papers.face().size());
        Due.is("class", true, () -> source.contains("public final class OvertureDesk {"));
        Due.is("what is public", Papers.face(), () -> declared(source));
        promises(document);
        headings(document, source);
        Due.is("comment of the class", true, () -> source.contains("/** A sequencer for music. */"));
        Due.end("DocumentTest");
    }

    /** All that is public inside the class, each in one line and up to its body. */
    private static List<String> declared(String source) {
        List<String> declared = new ArrayList<>();
        for (String found : Papers.found(source, "(?s)\n +public ([^{;=]*)")) {
            declared.add(found.replaceAll("\\s+", " ").trim());
        }
        return declared;
    }

    private static void promises(String document) {
        List<String> numbers = Papers.found(document, "(?m)^## Promise (\\d+):");
        List<String> declared = Papers.found(document, "(?m)^## Promise \\d+: [^\n]*\n\n`([^`]*)`:");
        Due.is("signatures of the promises", Papers.face(), () -> declared);
        for (int i = 0; i < numbers.size(); i++) {
            int number = i + 1;
            Due.is("promise", String.valueOf(number), () -> numbers.get(number - 1));
        }
    }

    /** Each heading stands ahead of the very calls that the document names with it. */
    private static void headings(String document, String source) {
        List<String> calls = Papers.found(document, "(?m)^Ahead of the calls (.*) the interface says: ---- ");
        List<String> headings = Papers.found(document, "(?m)the interface says: ---- (.*)\\.$");
        String[] parts = source.split("\n    // ---- ");
        Due.is("headings", headings.size(), () -> parts.length - 1);
        Due.is("calls ahead of the first heading", List.of("OvertureDesk()"), () -> declared(parts[0]));
        for (int i = 0; i < headings.size() && i + 1 < parts.length; i++) {
            String part = parts[i + 1];
            String heading = headings.get(i);
            Due.is("heading", true, () -> part.startsWith(heading + "\n"));
            Due.is(heading, Papers.found(calls.get(i), "`(\\w+)`"), () -> names(part));
        }
    }

    private static List<String> names(String part) {
        List<String> names = new ArrayList<>();
        for (String declared : declared(part)) {
            names.add(Papers.asCall(declared).replaceAll("\\(.*", ""));
        }
        return names;
    }
}
