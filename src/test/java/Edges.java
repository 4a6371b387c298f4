import java.util.ArrayList;
import java.util.List;
import java.util.function.Consumer;

/** The sentences of ../shared/DOC.md, each with what is asked for it. */
final class Edges {
    /** Where in the document the words stand, the words, and a test of their own. */
    static final class Edge {
        final String place;
        final String words;
        private final Consumer<Check> ask;

        private Edge(String place, String words, Consumer<Check> ask) {
            this.place = place;
            this.words = words;
            this.ask = ask;
        }

        String name() {
            return place + ": \"" + words + "\"";
        }

        boolean holds() {
            Check check = new Check(name());
            ask.accept(check);
            return check.isGood();
        }
    }

    private final List<Edge> all = new ArrayList<>();
    private String place = "";

    static List<Edge> all() {
        Edges edges = new Edges();
        TableEdges.addTo(edges);
        TextEdges.addTo(edges);
        EngineEdges.addTo(edges);
        LawEdges.addTo(edges);
        GrowEdges.addTo(edges);
        SeenEdges.addTo(edges);
        SheetEdges.addTo(edges);
        CountEdges.addTo(edges);
        return edges.all;
    }

    void at(String newPlace) {
        place = newPlace;
    }

    void add(String words, Consumer<Check> ask) {
        all.add(new Edge(place, words, ask));
    }
}
