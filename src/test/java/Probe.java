import java.util.ArrayList;
import java.util.List;
import java.util.function.Supplier;

/** What a drawing, its text and its slots answer when all is asked, so that two of them can be compared. */
final class Probe {
    private final List<Long> told = new ArrayList<>();

    private Probe() {
    }

    /** Asks three drawings that were made alike: the asking changes them, and no drawing may get over 512 calls. */
    static List<Long> of(Supplier<LayeredDrawing> maker) {
        Probe probe = new Probe();
        LayeredDrawing x = maker.get();
        probe.askDrawing(x);
        probe.askText(x);
        probe.askNodes(x);
        for (int slot = 0; slot < 2; slot++) {
            LayeredDrawing y = maker.get();
            probe.tell(y.restore(slot));
            probe.askDrawing(y);
            probe.askNodes(y);
        }
        return probe.told;
    }

    private void tell(long answer) {
        told.add(answer);
    }

    private void askDrawing(LayeredDrawing x) {
        tell(x.checksum());
        askEdges(x, 0);
        for (int group = 1; group <= 3; group++) {
            tell(x.intruders(group));
            for (int side = 0; side < 4; side++) {
                tell(x.border(group, side));
            }
        }
    }

    private void askEdges(LayeredDrawing x, int from) {
        int edges = x.edges();
        for (int edge = from; edge < edges; edge++) {
            for (int what = 0; what < 5; what++) {
                tell(x.edge(edge, what));
            }
        }
    }

    private void askText(LayeredDrawing x) {
        int edges = x.edges();
        tell(x.faultPosition());
        tell(x.read());
        askEdges(x, edges);
        tell(x.append(';'));
        tell(x.faultPosition());
        tell(x.clearText());
    }

    /** The group of each node, and its width, which is that of a border around it alone. */
    private void askNodes(LayeredDrawing x) {
        int nodes = x.nodes();
        while (x.removeEdge() > 0) {
            tell(x.edges());
        }
        for (int node = 0; node < nodes; node++) {
            tell(x.setGroup(node, 0));
        }
        for (int node = 0; node < nodes; node++) {
            x.setGroup(node, 1);
            x.layOut();
            tell(x.border(1, 1) - x.border(1, 0));
            x.setGroup(node, 0);
        }
    }
}
