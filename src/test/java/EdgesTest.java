import java.io.IOException;
import java.nio.file.Files;
import java.nio.file.Path;
import java.util.LinkedHashMap;
import java.util.List;
import java.util.Map;
import java.util.regex.Matcher;
import java.util.regex.Pattern;

/** Each sentence of the document, by its own test; and that none of the document is left out. */
public final class EdgesTest {
    private static final Path DOCUMENT = Path.of("../shared/DOC.md");

    private static final Path SOURCE = Path.of("src/main/java/BentWords.java");

    /** What there is of the document beside its sentences: names, labels, and what it does not promise. */
    private static final List<String> NO_SENTENCES = List.of("CONVENTIONS", "Solvers, answers", "The constants:", "what:", "answer:",
        "How the state is held inside the object is free, as are the speed of each call, the text of toString and the behaviour"
        + " of equals and hashCode", "Use of one object from several threads at once is not promised to be safe", "Nothing is promised"
        + " beyond the answers and state changes described above, and nothing about an object after its 512th call");

    /** What a promise begins with. */
    private static final Pattern SIGNATURE = Pattern.compile("^((?:int )?\\w+\\([a-z, ]*\\)):");

    private EdgesTest() { }

    public static void main(String[] args) throws IOException {
        List<Edges.Edge> edges = Edges.ofTheDocument();
        Due d = new Due();
        for (Edges.Edge edge : edges) {
            d.on(edge.name());
            edge.calls.accept(d);
        }
        System.out.println(edges.size() + " edges");
        sentences(d, edges);
        d.end();
    }

    /** For BreaksTest, which calls it where the class is broken: false if an answer is not as due, or if a call throws. */
    static boolean holds(int edge) {
        Due d = new Due(true);
        try {
            Edges.ofTheDocument().get(edge).calls.accept(d.on(""));
        } catch (RuntimeException thrown) {
            return false;
        }
        return d.wrong() == 0;
    }

    /** Each quoted sentence has to stand in the document, and nothing that could be one is left of it. */
    private static void sentences(Due d, List<Edges.Edge> edges) throws IOException {
        if (!Files.isRegularFile(DOCUMENT)) {
            System.out.println("no " + DOCUMENT + ": its sentences are not looked up");
            return;
        }
        String document = Files.readString(DOCUMENT);
        Map<String, StringBuilder> texts = textsByHeading(document);
        Map<String, StringBuilder> left = textsByHeading(document);
        for (Edges.Edge edge : edges) {
            d.on(edge.name());
            StringBuilder text = texts.getOrDefault(edge.heading, new StringBuilder());
            d.due("where the document has this sentence", text.indexOf(edge.sentence) >= 0 ? 1 : 0, 1);
            blank(edge.sentence, text, left.getOrDefault(edge.heading, new StringBuilder()));
        }
        String source = Files.readString(SOURCE);
        for (String heading : left.keySet()) {
            StringBuilder rest = left.get(heading);
            d.on(heading);
            signature(d, source, rest);
            for (String other : NO_SENTENCES) {
                blank(other, texts.get(heading), rest);
            }
            d.on(heading + ": " + rest);
            d.due("what is left without a test", rest.chars().anyMatch(Character::isLetterOrDigit) ? 1 : 0, 0);
        }
        face(d, source, document);
    }

    /** Sentences may lie over one another, so they are looked for in the whole text. */
    private static void blank(String sentence, StringBuilder text, StringBuilder left) {
        for (int at = text.indexOf(sentence); at >= 0; at = text.indexOf(sentence, at + 1)) {
            left.replace(at, at + sentence.length(), "_".repeat(sentence.length()));
        }
    }

    private static void signature(Due d, String source, StringBuilder rest) {
        Matcher found = SIGNATURE.matcher(rest);
        if (found.find()) {
            d.due("where the class has " + found.group(1), source.contains("    public " + found.group(1) + " {\n") ? 1 : 0, 1);
            rest.replace(found.start(), found.end(), "_".repeat(found.end()));
        }
    }

    /** Each line of the public face stands in the class, in the face's order. */
    private static void face(Due d, String source, String document) {
        d.on("The public face");
        Matcher block = Pattern.compile("(?s)```java\n(.*?)```").matcher(document);
        d.due("where there is a face", block.find() ? 1 : 0, 1);
        int at = 0;
        int lines = 0;
        for (String line : block.group(1).split("\n")) {
            if (line.strip().startsWith("public")) {
                lines++;
                int found = source.indexOf(line.endsWith(");") ? line.substring(0, line.length() - 1) + " {" : line, at);
                d.due("where the class has, in this order: " + line, found >= 0 ? 1 : 0, 1);
                at = Math.max(at, found);
            }
        }
        d.due("lines of the face", lines, 26);
    }

    private static Map<String, StringBuilder> textsByHeading(String document) {
        Map<String, StringBuilder> texts = new LinkedHashMap<>();
        String heading = "";
        for (String line : document.replaceAll("(?s)```.*?```", "").split("\n")) {
            if (line.startsWith("#")) {
                heading = line.replaceFirst("#+ ", "");
            } else {
                String plain = line.replace("`", "").replaceFirst("^- ", "").strip();
                StringBuilder text = texts.computeIfAbsent(heading, none -> new StringBuilder());
                text.append(text.length() == 0 || plain.isEmpty() ? "" : " ").append(plain);
            }
        }
        return texts;
    }
}
