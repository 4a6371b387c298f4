import java.nio.file.Files;
import java.nio.file.Path;
import java.util.Arrays;
import java.util.LinkedHashMap;
import java.util.List;
import java.util.Map;

/**
 * Each sentence of ../shared/DOC.md has a test of its own: the words that a test bears stand at its
 * place, and no letter or figure of the document's terms and promises is without such words.
 */
public final class EdgeTest {
    private final Check check = new Check("EdgeTest");
    private final Map<String, String> places = new LinkedHashMap<>();
    private final Map<String, boolean[]> borne = new LinkedHashMap<>();

    public static void main(String[] args) throws Exception {
        new EdgeTest().all();
    }

    private void all() throws Exception {
        readPlaces(Files.readString(Path.of("../shared/DOC.md")));
        check.due("places of the document", places.size(), 6 + 37);
        List<Edges.Edge> edges = Edges.all();
        for (Edges.Edge edge : edges) {
            check.isTrue(edge.name() + " stands there", bear(edge.place, edge.words));
            check.isTrue(edge.name() + " holds", edge.holds());
        }
        for (String place : places.keySet()) {
            check.isTrue(place + ": no test bears \"" + bare(place) + "\"", bare(place).isBlank());
        }
        check.end();
    }

    private void readPlaces(String doc) {
        String all = doc.replace("```text", " ").replace("```", " ").replaceAll("\\s+", " ");
        keep("1 THE TABLE", between(all, "======== 1 THE TABLE has", " ## The public face").substring(11));
        keep("Terms", between(all, "TEXTS 0, 1 are", "======== 2"));
        keep("2 THE ENGINE", between(all, "THE ENGINE has RULES", "======== 3"));
        keep("3 LAWS", between(all, "LAWS of a TEST p", "======== 4"));
        keep("4 GROWN", between(all, "GROWN by a SEED", "Refusals, the first"));
        keep("Refusals", between(all, "Refusals, the first", "Ahead of the calls"));
        for (int n = 1; n <= 37; n++) {
            String promise = between(all, "## Promise " + n + ":", " ## ");
            keep("Promise " + n, promise.substring(promise.indexOf("`:") + 2));
        }
    }

    private static String between(String all, String first, String end) {
        int from = all.indexOf(first);
        return all.substring(from, all.indexOf(end, from));
    }

    private void keep(String place, String text) {
        places.put(place, text);
        borne.put(place, new boolean[text.length()]);
    }

    private boolean bear(String place, String words) {
        int from = places.getOrDefault(place, "").indexOf(words);
        if (from >= 0) Arrays.fill(borne.get(place), from, from + words.length(), true);
        return from >= 0;
    }

    private String bare(String place) {
        StringBuilder rest = new StringBuilder();
        for (int i = 0; i < places.get(place).length(); i++) {
            char sign = places.get(place).charAt(i);
            rest.append(!borne.get(place)[i] && Character.isLetterOrDigit(sign) ? sign : ' ');
        }
        return rest.toString().replaceAll("\\s+", " ");
    }
}
