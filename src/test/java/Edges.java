import java.util.ArrayList;
import java.util.List;
import java.util.function.Consumer;

/** The sentences of the document, each with the calls that hold it. */
final class Edges {
    /** A change to the class that breaks a sentence: the first 'old' that stands at or behind the anchor. */
    record Break(String anchor, String old, String broken) {
        String in(String source) {
            int from = source.indexOf(anchor);
            int at = from < 0 ? -1 : source.indexOf(old, from);
            if (at < 0 || source.indexOf(anchor, from + 1) >= 0) {
                throw new IllegalStateException("does not stand once in the class: " + anchor + " .. " + old);
            }
            return source.substring(0, at) + broken + source.substring(at + old.length());
        }
    }

    static final class Edge {
        final String heading, sentence;
        final Consumer<Due> calls;
        final List<Break> breaks = new ArrayList<>();

        Edge(String heading, String sentence, Consumer<Due> calls) {
            this.heading = heading;
            this.sentence = sentence;
            this.calls = calls;
        }

        Edge brokenBy(String anchor, String old, String broken) {
            breaks.add(new Break(anchor, old, broken));
            return this;
        }

        /** A break of what stands once in the class. */
        Edge brokenBy(String old, String broken) {
            return brokenBy(old, old, broken);
        }

        String name() {
            return heading + ": " + sentence;
        }
    }

    private final List<Edge> all = new ArrayList<>();
    private String heading = "";

    /** What follows is from below this heading of the document. */
    void below(String newHeading) {
        heading = newHeading;
    }

    Edge edge(String sentence, Consumer<Due> calls) {
        Edge edge = new Edge(heading, sentence, calls);
        all.add(edge);
        return edge;
    }

    static List<Edge> ofTheDocument() {
        Edges edges = new Edges();
        EdgesOfTerms.addTo(edges);
        EdgesOfChanges.addTo(edges);
        EdgesOfLooks.addTo(edges);
        EdgesOfWhatIf.addTo(edges);
        EdgesOfTexts.addTo(edges);
        EdgesOfSaving.addTo(edges);
        PlainSentences.addTo(edges);
        return edges.all;
    }
}
