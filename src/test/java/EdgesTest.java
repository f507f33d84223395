import java.io.IOException;
import java.nio.file.Files;
import java.nio.file.Path;
import java.util.LinkedHashMap;
import java.util.List;
import java.util.Map;
import java.util.regex.Pattern;

/** Each sentence of the document that names a boundary, by its own test; and that none of the document is left out. */
public final class EdgesTest {
    private static final Path DOCUMENT = Path.of("../shared/DOC.md");

    /** What names a boundary; none of it may be left of the document behind the sentences that have a test. */
    private static final Pattern BOUNDARY = Pattern.compile("NO_SUCH|BAD_VALUE|BAD_TEXT|TOO_MANY|NOT_POSSIBLE|NONE|[0-9] to [0-9]"
        + "|\\b(at least|at most|at first|up to|or more|or less|without|also|if|lowest|highest|first one|empty|longer|alone|only|too|rounded|below|above)\\b");

    private EdgesTest() { }

    public static void main(String[] args) throws IOException {
        List<Edges.Edge> edges = Edges.ofTheDocument();
        Due d = new Due();
        for (Edges.Edge edge : edges) {
            d.on(edge.name());
            edge.calls.accept(d);
        }
        System.out.println(edges.size() + " edges");
        sentences(d, edges);
        d.end();
    }

    /** For BreaksTest, which calls it where the class is broken: false if an answer is not as due, or if a call throws. */
    static boolean holds(int edge) {
        Due d = new Due(true);
        try {
            Edges.ofTheDocument().get(edge).calls.accept(d.on(""));
        } catch (RuntimeException thrown) {
            return false;
        }
        return d.wrong() == 0;
    }

    /** Each quoted sentence has to stand in the document; what is left of it, sentence by sentence, names no boundary. */
    private static void sentences(Due d, List<Edges.Edge> edges) throws IOException {
        if (!Files.isRegularFile(DOCUMENT)) {
            System.out.println("no " + DOCUMENT + ": its sentences are not looked up");
            return;
        }
        Map<String, StringBuilder> left = textsByHeading(Files.readString(DOCUMENT));
        Map<String, StringBuilder> texts = textsByHeading(Files.readString(DOCUMENT));
        for (Edges.Edge edge : edges) {
            d.on(edge.name());
            StringBuilder text = texts.getOrDefault(edge.heading, new StringBuilder());
            d.due("where the document has this sentence", text.indexOf(edge.sentence) >= 0 ? 1 : 0, 1);
            for (int at = text.indexOf(edge.sentence); at >= 0; at = text.indexOf(edge.sentence, at + 1)) {
                left.get(edge.heading).replace(at, at + edge.sentence.length(), "_".repeat(edge.sentence.length()));
            }
        }
        for (String heading : left.keySet()) {
            d.on(heading + ": " + left.get(heading));
            boolean isPromised = heading.startsWith("Promise ") || List.of("Terms", "Settings", "Words", "Texts").contains(heading);
            d.due("a boundary without a test", isPromised && BOUNDARY.matcher(left.get(heading)).find() ? 1 : 0, 0);
        }
    }

    private static Map<String, StringBuilder> textsByHeading(String document) {
        Map<String, StringBuilder> texts = new LinkedHashMap<>();
        String heading = "";
        for (String line : document.replaceAll("(?s)```.*?```", "").split("\n")) {
            if (line.startsWith("#")) {
                heading = line.replaceFirst("#+ ", "");
            } else {
                String plain = line.replace("`", "").replaceFirst("^- ", "").strip();
                StringBuilder text = texts.computeIfAbsent(heading, none -> new StringBuilder());
                text.append(text.length() == 0 || plain.isEmpty() ? "" : " ").append(plain);
            }
        }
        return texts;
    }
}
