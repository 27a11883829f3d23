import java.util.ArrayList;
import java.util.List;

/** Runs the own test of each sentence of the document that names a boundary case. */
public final class BoundariesTest extends Asking {
    private BoundariesTest() {
    }

    static List<Edge> edges() {
        List<Edge> edges = new ArrayList<>();
        edges.addAll(WorksEdges.terms());
        edges.addAll(RefusalEdges.terms());
        edges.addAll(MatchesEdges.terms());
        edges.addAll(SpansEdges.terms());
        edges.addAll(ToldEdges.terms());
        edges.addAll(WorksEdges.promises());
        edges.addAll(MatchesEdges.promises());
        edges.addAll(SpansEdges.promises());
        edges.addAll(ToldEdges.promises());
        return edges;
    }

    private static boolean holds(Edge edge) {
        int before = wrong;
        try {
            edge.test().run();
        } catch (RuntimeException e) {
            fault("threw " + e);
        }
        return wrong == before;
    }

    /** Asked by MutantsTest of broken classes: doesn't the sentence hold that is so named? */
    public static boolean isBroken(String name) {
        quiet = true;
        boolean broken = false;
        for (Edge edge : edges()) {
            broken |= edge.isNamed(name) && !holds(edge);
        }
        return broken;
    }

    public static void main(String[] args) {
        int sentences = 0;
        for (Edge edge : edges()) {
            sentences++;
            if (!holds(edge)) {
                System.out.println("doesn't hold: " + edge.told());
            }
        }
        System.out.println(sentences + " sentences by " + asked + " answers, " + wrong + " not as due");
        if (wrong != 0) {
            System.exit(1);
        }
    }
}
