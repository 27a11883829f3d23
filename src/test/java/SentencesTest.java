import java.io.IOException;
import java.nio.file.Files;
import java.nio.file.Path;
import java.util.ArrayList;
import java.util.LinkedHashMap;
import java.util.List;
import java.util.Map;

/**
 * Holds the tests of BoundariesTest against the document: each quotes it, and no words of its terms and
 * promises are without one.
 */
public final class SentencesTest extends Asking {
    private SentencesTest() {
    }

    private static String plain(String text) {
        return text.replace("```text", " ").replace("```", " ").replace("`", "").replaceAll("\\s+", " ").trim();
    }

    private static String between(String doc, String from, String to) {
        int begin = doc.indexOf(from);
        int end = doc.indexOf(to, begin + 1);
        if (begin < 0 || end < 0) {
            fault("the document has no text from <" + from + "> to <" + to + ">");
            return "";
        }
        return plain(doc.substring(begin + from.length(), end));
    }

    /** The places of the document that edges tell of, each with its text. */
    private static Map<String, String> places(String doc) {
        Map<String, String> places = new LinkedHashMap<>();
        places.put("head", between(doc, "an image laid back.", "## The public face"));
        places.put("terms 1", between(doc, "==== 1 ", "==== 2 "));
        places.put("terms 2", between(doc, "==== 2 ", "In doubt."));
        places.put("in doubt", between(doc, "In doubt.", "Ahead of the calls"));
        for (int n = 1; n <= 32; n++) {
            String told = between(doc, "## Promise " + n + ":", "\n## ");
            places.put(Integer.toString(n), told.replaceFirst("^.*?\\): ", ""));
        }
        return places;
    }

    /** Each word of a place is told by some test that quotes it. */
    private static void holdAgainst(String place, String text, List<Edge> edges) {
        StringBuilder untold = new StringBuilder(text);
        for (Edge edge : edges) {
            int at = text.indexOf(edge.words());
            asked++;
            if (at < 0) {
                fault("the document doesn't say so: " + edge.told());
                continue;
            }
            for (int i = at; i < at + edge.words().length(); i++) {
                untold.setCharAt(i, ' ');
            }
        }
        for (String words : untold.toString().split(" {2,}")) {
            if (words.matches(".*\\w.*")) {
                fault("no test tells of " + place + ": " + words.trim());
            }
        }
    }

    public static void main(String[] args) throws IOException {
        Path path = Path.of(args.length > 0 ? args[0] : "../shared/DOC.md");
        Map<String, List<Edge>> edges = new LinkedHashMap<>();
        for (Edge edge : BoundariesTest.edges()) {
            edges.computeIfAbsent(edge.place(), p -> new ArrayList<>()).add(edge);
        }
        Map<String, String> places = places(Files.readString(path));
        for (Map.Entry<String, String> e : places.entrySet()) {
            List<Edge> here = edges.remove(e.getKey());
            holdAgainst(e.getKey(), e.getValue(), here == null ? List.of() : here);
        }
        for (String place : edges.keySet()) {
            fault("the document has no place " + place);
        }
        System.out.println(places.size() + " places, " + asked + " sentences that tests quote, " + wrong + " faults");
        if (wrong != 0) {
            System.exit(1);
        }
    }
}
