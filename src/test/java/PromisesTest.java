import java.util.Set;
import java.util.TreeSet;

/** For each promise of the document: ordinary inputs, the edges that it names, and wrong inputs. */
public final class PromisesTest extends Steps {
    private static final int PROMISES = 41;

    public static void main(String[] args) {
        graphPromises();
        layerPromises();
        orderPromises();
        coordinatePromises();
        textPromises();
        slotPromises();
        for (int number = 1; number <= PROMISES; number++) {
            CHECK.holds("promise " + number + " has a test", CHECK.countOf(number) > 0);
        }
        CHECK.end();
    }

    private static void graphPromises() {
        newObject();
        clear();
        addNode();
        addEdge();
        removeEdge();
        setGroup();
        nodesAndEdges();
        edge();
        changesUndoTheLayout();
    }

    private static void layerPromises() {
        reversed();
        reversals();
        layerOf();
        lowestOfSeveral();
        lengthOf();
        totalLength();
        layers();
    }

    private static void orderPromises() {
        layOut();
        layOutFull();
        layOutClosesGroups();
        vertices();
        vertex();
        placeOf();
        crossingsBelow();
        crossingsByPorts();
        crossings();
        crossingsOf();
        crossingsOfNeighbours();
        sweepDown();
        sweepUp();
        sweepWeights();
        sweepWeightsOfBends();
        sweepPortsOfBends();
        sweepGroups();
        sift();
        siftGroups();
        siftAll();
        siftAllIsItsSifts();
        reduce();
        reduceIsItsRounds();
        reduceKeepsTheEarliest();
        exchange();
    }

    private static void coordinatePromises() {
        align();
        alignMiddle();
        alignStays();
        alignIsUndone();
        left();
        width();
        spread();
        straight();
        border();
        intruders();
    }

    private static void textPromises() {
        append();
        clearText();
        faultOfSigns();
        faultOfNumbers();
        faultFollowsTheGraph();
        read();
        readFull();
    }

    private static void slotPromises() {
        keep();
        restore();
        restoreEverything();
        checksum();
    }

    // ---- the graph

    private static void newObject() {
        CHECK.promise(1, "a new object");
        LayeredDrawing x = new LayeredDrawing();
        due("nodes()", x.nodes(), 0);
        due("edges()", x.edges(), 0);
        due("layers()", x.layers(), 0);
        due("totalLength()", x.totalLength(), 0);
        due("reversals()", x.reversals(), 0);
        due("crossings()", x.crossings(), NOT);
        due("width()", x.width(), NOT);
        due("vertices(0)", x.vertices(0), NOT);
        due("faultPosition()", x.faultPosition(), NONE);
        due("restore(0)", x.restore(0), NOT);
        due("restore(1)", x.restore(1), NOT);
        due("clearText()", x.clearText(), 0);
        due("checksum()", x.checksum(), 53L * 31 * 31 * 31 * 31);
        due("BAD_VALUE", LayeredDrawing.BAD_VALUE, -1);
        due("FULL", LayeredDrawing.FULL, -2);
        due("NOT_POSSIBLE", LayeredDrawing.NOT_POSSIBLE, -3);
        due("NONE", LayeredDrawing.NONE, -4);
    }

    private static void clear() {
        CHECK.promise(2, "clear");
        LayeredDrawing x = withNodes(3);
        connect(x, 0, 1);
        write(x, "0>1;");
        x.keep(0);
        due("clear()", x.clear(), 3);
        due("nodes()", x.nodes(), 0);
        due("edges()", x.edges(), 0);
        due("layers()", x.layers(), 0);
        due("clear()", x.clear(), 0);
        due("addNode(2, 1)", x.addNode(2, 1), 0);
        due("clearText()", x.clearText(), 4);
        due("restore(0)", x.restore(0), 3);
        due("edges()", x.edges(), 1);
    }

    private static void addNode() {
        CHECK.promise(3, "addNode");
        LayeredDrawing x = new LayeredDrawing();
        for (int wrong : new int[] {0, 10, -1, MIN, MAX}) {
            due("addNode(" + wrong + ", 0)", x.addNode(wrong, 0), BAD);
        }
        for (int wrong : new int[] {-1, 4, MIN, MAX}) {
            due("addNode(1, " + wrong + ")", x.addNode(1, wrong), BAD);
        }
        due("nodes()", x.nodes(), 0);
        due("addNode(1, 0)", x.addNode(1, 0), 0);
        due("addNode(9, 3)", x.addNode(9, 3), 1);
        x.layOut();
        due("left(1)", x.left(1), 2);
        due("border(3, 1)", x.border(3, 1), 11);
        for (int node = 2; node < 12; node++) {
            due("addNode(2, 1)", x.addNode(2, 1), node);
        }
        x.layOut();
        due("addNode(1, 0)", x.addNode(1, 0), FULL);
        due("addNode(0, 0)", x.addNode(0, 0), BAD);
        due("addNode(1, 4)", x.addNode(1, 4), BAD);
        due("nodes()", x.nodes(), 12);
        due("vertices(0)", x.vertices(0), 12);
    }

    private static void addEdge() {
        CHECK.promise(4, "addEdge");
        LayeredDrawing x = withNodes(3);
        for (int wrong : new int[] {-1, 3, MIN, MAX}) {
            due("addEdge(" + wrong + ", 1, 0, 0, 1)", x.addEdge(wrong, 1, 0, 0, 1), BAD);
            due("addEdge(1, " + wrong + ", 0, 0, 1)", x.addEdge(1, wrong, 0, 0, 1), BAD);
        }
        for (int wrong : new int[] {-1, 8, MIN, MAX}) {
            due("addEdge(0, 1, " + wrong + ", 0, 1)", x.addEdge(0, 1, wrong, 0, 1), BAD);
            due("addEdge(0, 1, 0, " + wrong + ", 1)", x.addEdge(0, 1, 0, wrong, 1), BAD);
        }
        for (int wrong : new int[] {0, 4, -1, MIN, MAX}) {
            due("addEdge(0, 1, 0, 0, " + wrong + ")", x.addEdge(0, 1, 0, 0, wrong), BAD);
        }
        due("addEdge(2, 2, 0, 0, 1)", x.addEdge(2, 2, 0, 0, 1), BAD);
        due("edges()", x.edges(), 0);
        due("addEdge(0, 1, 0, 7, 1)", x.addEdge(0, 1, 0, 7, 1), 0);
        due("addEdge(2, 0, 7, 0, 3)", x.addEdge(2, 0, 7, 0, 3), 1);
        for (int edge = 2; edge < 20; edge++) {
            due("addEdge(0, 1, 0, 7, 2)", x.addEdge(0, 1, 0, 7, 2), edge);
        }
        x.layOut();
        due("addEdge(0, 1, 0, 0, 1)", x.addEdge(0, 1, 0, 0, 1), FULL);
        due("addEdge(0, 0, 0, 0, 1)", x.addEdge(0, 0, 0, 0, 1), BAD);
        due("addEdge(0, 1, 0, 0, 4)", x.addEdge(0, 1, 0, 0, 4), BAD);
        due("edges()", x.edges(), 20);
        due("crossings()", x.crossings(), 0);
    }

    private static void removeEdge() {
        CHECK.promise(5, "removeEdge");
        LayeredDrawing x = withNodes(3);
        due("removeEdge()", x.removeEdge(), NOT);
        connect(x, 0, 1, 1, 2, 0, 2);
        due("removeEdge()", x.removeEdge(), 2);
        due("totalLength()", x.totalLength(), 2);
        due("edge(2, 0)", x.edge(2, 0), BAD);
        due("edge(1, 1)", x.edge(1, 1), 2);
        due("removeEdge()", x.removeEdge(), 1);
        due("layers()", x.layers(), 2);
        due("removeEdge()", x.removeEdge(), 0);
        due("layOut()", x.layOut(), 3);
        due("removeEdge()", x.removeEdge(), NOT);
        due("crossings()", x.crossings(), 0);
        connect(x, 2, 1);
        due("edge(0, 0)", x.edge(0, 0), 2);
    }

    private static void setGroup() {
        CHECK.promise(6, "setGroup");
        LayeredDrawing x = withNodes(2);
        due("setGroup(0, 3)", x.setGroup(0, 3), 0);
        due("setGroup(0, 1)", x.setGroup(0, 1), 3);
        due("setGroup(0, 0)", x.setGroup(0, 0), 1);
        due("setGroup(0, 0)", x.setGroup(0, 0), 0);
        due("setGroup(1, 2)", x.setGroup(1, 2), 0);
        for (int wrong : new int[] {-1, 2, MIN, MAX}) {
            due("setGroup(" + wrong + ", 0)", x.setGroup(wrong, 0), BAD);
        }
        for (int wrong : new int[] {-1, 4, MIN, MAX}) {
            due("setGroup(1, " + wrong + ")", x.setGroup(1, wrong), BAD);
        }
        due("layOut()", x.layOut(), 2);
        due("setGroup(1, 4)", x.setGroup(1, 4), BAD);
        due("border(2, 0)", x.border(2, 0), 2);
        due("border(1, 0)", x.border(1, 0), NONE);
    }

    private static void nodesAndEdges() {
        CHECK.promise(7, "nodes");
        LayeredDrawing x = withNodes(2);
        due("nodes()", x.nodes(), 2);
        x.addNode(1, 0);
        due("nodes()", x.nodes(), 3);
        CHECK.promise(8, "edges");
        due("edges()", x.edges(), 0);
        connect(x, 0, 1, 0, 1, 2, 1);
        due("edges()", x.edges(), 3);
        x.removeEdge();
        due("edges()", x.edges(), 2);
    }

    private static void edge() {
        CHECK.promise(9, "edge");
        LayeredDrawing x = withNodes(4);
        x.addEdge(3, 1, 6, 5, 2);
        x.addEdge(1, 3, 4, 7, 3);
        int[] first = {3, 1, 6, 5, 2};
        int[] second = {1, 3, 4, 7, 3};
        for (int what = 0; what < 5; what++) {
            due("edge(0, " + what + ")", x.edge(0, what), first[what]);
            due("edge(1, " + what + ")", x.edge(1, what), second[what]);
        }
        for (int wrong : new int[] {-1, 5, MIN, MAX}) {
            due("edge(0, " + wrong + ")", x.edge(0, wrong), BAD);
        }
        for (int wrong : new int[] {-1, 2, 19, 20, MIN, MAX}) {
            due("edge(" + wrong + ", 0)", x.edge(wrong, 0), BAD);
        }
    }

    private static void changesUndoTheLayout() {
        CHECK.promise(16, "layOut, undone by changes");
        for (int change = 0; change < 6; change++) {
            LayeredDrawing x = crossed();
            due("crossings()", x.crossings(), 1);
            switch (change) {
                case 0 -> x.clear();
                case 1 -> x.addNode(1, 0);
                case 2 -> x.addEdge(0, 1, 0, 0, 1);
                case 3 -> x.removeEdge();
                case 4 -> x.setGroup(0, 0);
                default -> due("read()", x.read(), 0);
            }
            due("crossings() after change " + change, x.crossings(), NOT);
            x.layOut();
            due("append(32)", x.append(32), 1);
            due("read()", x.read(), NOT);
            due("crossings() after a fault", x.crossings(), change == 0 || change == 3 ? 0 : x.crossings());
            CHECK.holds("it is still laid out", x.crossings() != NOT);
        }
    }

    // ---- directions and layers

    private static void reversed() {
        CHECK.promise(10, "reversed");
        LayeredDrawing x = withNodes(3);
        // from 0 by edge 1 to 1, where edge 0 leads back and edge 2 on to 2, whose edges lead back
        connect(x, 1, 0, 0, 1, 1, 2, 2, 0, 2, 1, 0, 2);
        int[] want = {1, 0, 0, 1, 1, 0};
        for (int edge = 0; edge < 6; edge++) {
            due("reversed(" + edge + ")", x.reversed(edge), want[edge]);
        }
        for (int wrong : new int[] {-1, 6, 20, MIN, MAX}) {
            due("reversed(" + wrong + ")", x.reversed(wrong), BAD);
        }
        due("layerOf(0)", x.layerOf(0), 0);
        due("layerOf(2)", x.layerOf(2), 2);

        // the edge with the lower number is followed first, and its target wholly, before the next one
        LayeredDrawing y = withNodes(3);
        connect(y, 0, 2, 0, 1, 1, 2, 2, 1);
        due("reversed(2)", y.reversed(2), 1);
        due("reversed(3)", y.reversed(3), 0);
        LayeredDrawing z = withNodes(3);
        connect(z, 0, 1, 0, 2, 1, 2, 2, 1);
        due("reversed(2)", z.reversed(2), 0);
        due("reversed(3)", z.reversed(3), 1);
        // an edge to a node whose visit has ended is not reversed
        LayeredDrawing w = withNodes(3);
        connect(w, 2, 0, 1, 0, 2, 1);
        due("reversals()", w.reversals(), 0);
    }

    private static void reversals() {
        CHECK.promise(11, "reversals");
        LayeredDrawing x = withNodes(12);
        for (int node = 0; node < 12; node++) {
            due("reversals()", x.reversals(), 0);
            connect(x, node, (node + 1) % 12);
        }
        due("reversals()", x.reversals(), 1);
        connect(x, 5, 4, 5, 4);
        due("reversals()", x.reversals(), 3);
        connect(x, 4, 5);
        due("reversals()", x.reversals(), 3);
        x.removeEdge();
        x.removeEdge();
        due("reversals()", x.reversals(), 2);
        // the first edge counts, and what was reversed once may be so no more
        LayeredDrawing y = withNodes(2);
        connect(y, 1, 0);
        due("reversals()", y.reversals(), 0);
        connect(y, 0, 1);
        due("reversals()", y.reversals(), 1);
        y.removeEdge();
        due("reversals()", y.reversals(), 0);
        due("reversed(0)", y.reversed(0), 0);
        due("layerOf(0)", y.layerOf(0), 1);
    }

    private static void layerOf() {
        CHECK.promise(12, "layerOf");
        LayeredDrawing x = withNodes(6);
        // a chain 0 1 2 3; 4 leads only to 3, so it is drawn to it; 5 stands alone
        connect(x, 0, 1, 1, 2, 2, 3, 4, 3);
        int[] want = {0, 1, 2, 3, 2, 0};
        for (int node = 0; node < 6; node++) {
            due("layerOf(" + node + ")", x.layerOf(node), want[node]);
        }
        for (int wrong : new int[] {-1, 6, 12, MIN, MAX}) {
            due("layerOf(" + wrong + ")", x.layerOf(wrong), BAD);
        }
        // the least lengths count: 0 to 1 has 3
        LayeredDrawing y = withNodes(3);
        y.addEdge(0, 1, 0, 0, 3);
        y.addEdge(0, 2, 0, 0, 1);
        y.addEdge(2, 1, 0, 0, 1);
        due("layerOf(1)", y.layerOf(1), 3);
        due("layerOf(2)", y.layerOf(2), 1);
    }

    private static void lowestOfSeveral() {
        CHECK.promise(12, "layerOf, of several layerings");
        LayeredDrawing x = withNodes(5);
        connect(x, 0, 1, 1, 2, 2, 3, 0, 4, 4, 3);
        due("layerOf(4)", x.layerOf(4), 1);
        // a second edge down draws it down
        connect(x, 4, 3);
        due("layerOf(4)", x.layerOf(4), 2);
        // a second edge up makes it even again
        connect(x, 0, 4);
        due("layerOf(4)", x.layerOf(4), 1);
        due("totalLength()", x.totalLength(), 3 + 2 * 1 + 2 * 2);

        // 4 and 5 must go down together, to be nearer to 3 by the two edges of 5
        LayeredDrawing y = withNodes(6);
        connect(y, 0, 1, 1, 2, 2, 3, 0, 4, 4, 5, 5, 3, 5, 3);
        due("layerOf(4)", y.layerOf(4), 1);
        due("layerOf(5)", y.layerOf(5), 2);
        LayeredDrawing z = withNodes(7);
        connect(z, 0, 1, 1, 2, 2, 3, 3, 6, 0, 4, 4, 5, 5, 6, 4, 6);
        // 4 has one edge up and two down: 4 and 5 as far down as 5 allows
        due("layerOf(4)", z.layerOf(4), 2);
        due("layerOf(5)", z.layerOf(5), 3);
    }

    private static void lengthOf() {
        CHECK.promise(13, "lengthOf");
        LayeredDrawing x = withNodes(3);
        connect(x, 0, 1, 1, 2, 0, 2, 2, 0);
        due("lengthOf(0)", x.lengthOf(0), 1);
        due("lengthOf(2)", x.lengthOf(2), 2);
        due("lengthOf(3), reversed", x.lengthOf(3), 2);
        for (int wrong : new int[] {-1, 4, 20, MIN, MAX}) {
            due("lengthOf(" + wrong + ")", x.lengthOf(wrong), BAD);
        }
        x.addEdge(1, 2, 0, 0, 3);
        due("lengthOf(1)", x.lengthOf(1), 3);
        due("lengthOf(2)", x.lengthOf(2), 4);
    }

    private static void totalLength() {
        CHECK.promise(14, "totalLength");
        LayeredDrawing x = withNodes(3);
        due("totalLength()", x.totalLength(), 0);
        connect(x, 0, 1, 1, 2, 0, 2, 2, 0);
        due("totalLength()", x.totalLength(), 6);
        x.addEdge(1, 0, 0, 0, 2);
        due("totalLength()", x.totalLength(), 2 + 1 + 3 + 3 + 2);
        // a zigzag: 1 to 0, 1 to 2, 3 to 2, with 0 far below: each edge can have its least length
        LayeredDrawing y = withNodes(4);
        y.addEdge(1, 0, 0, 0, 3);
        y.addEdge(1, 2, 0, 0, 1);
        y.addEdge(3, 2, 0, 0, 3);
        due("totalLength()", y.totalLength(), 7);
        due("layerOf(3)", y.layerOf(3), 0);
        due("layerOf(1)", y.layerOf(1), 2);
        due("layerOf(0)", y.layerOf(0), 5);
    }

    private static void layers() {
        CHECK.promise(15, "layers");
        LayeredDrawing x = new LayeredDrawing();
        due("layers()", x.layers(), 0);
        x.addNode(1, 0);
        due("layers()", x.layers(), 1);
        for (int node = 1; node < 12; node++) {
            x.addNode(1, 0);
            x.addEdge(node - 1, node, 0, 0, 3);
            due("layers()", x.layers(), 3 * node + 1);
        }
        x.layOut();
        due("vertices(33)", x.vertices(33), 1);
        due("vertex(33, 0)", x.vertex(33, 0), 11);
        due("vertex(32, 0)", x.vertex(32, 0), 100 + 40 * 10 + 32);
        due("crossingsBelow(32)", x.crossingsBelow(32), 0);
    }

    // ---- order

    private static void layOut() {
        CHECK.promise(16, "layOut");
        LayeredDrawing x = new LayeredDrawing();
        due("layOut()", x.layOut(), 0);
        due("crossings()", x.crossings(), 0);
        x.addNode(3, 0);
        x.addNode(2, 0);
        x.addNode(1, 0);
        x.addEdge(1, 2, 0, 0, 3);
        x.addEdge(0, 2, 0, 0, 2);
        due("layOut()", x.layOut(), 3 + 2 + 1);
        row(x, 0, 1);
        row(x, 1, 0, 101);
        row(x, 2, 102, 142);
        row(x, 3, 2);
        lefts(x, 1, 0, 0, 0, 101, 4, 102, 0, 142, 2, 2, 0);
        // once more it is as at first
        due("crossings()", x.crossings(), 1);
        due("exchange(1, 0)", x.exchange(1, 0), 0);
        row(x, 1, 101, 0);
        x.align();
        due("layOut()", x.layOut(), 6);
        row(x, 1, 0, 101);
        lefts(x, 0, 0, 101, 4, 102, 0, 142, 2, 2, 0);
    }

    private static void layOutFull() {
        CHECK.promise(16, "layOut, FULL");
        LayeredDrawing x = withNodes(12);
        for (int node = 1; node < 12; node++) {
            x.addEdge(node - 1, node, 0, 0, node == 11 ? 2 : 3);
        }
        due("layOut()", x.layOut(), 33);
        x.addEdge(0, 9, 0, 0, 1);
        due("layOut()", x.layOut(), 59);
        x.addEdge(10, 11, 0, 0, 1);
        due("layOut()", x.layOut(), 60);
        due("vertices(32)", x.vertices(32), 1);
        due("siftAll()", x.siftAll(), 0);
        x.addEdge(10, 11, 0, 0, 1);
        due("layOut()", x.layOut(), FULL);
        due("vertices(0)", x.vertices(0), NOT);
        due("checksum() of a FULL one", x.checksum() == x.checksum() ? 1 : 0, 1);
        x.removeEdge();
        due("layOut()", x.layOut(), 60);
        // much more than 60: 20 edges of length 33
        while (x.edges() > 10) {
            x.removeEdge();
        }
        x.addEdge(10, 11, 0, 0, 3);
        while (x.edges() < 20) {
            x.addEdge(0, 11, 0, 0, 1);
        }
        due("totalLength()", x.totalLength(), 33 + 9 * 33);
        due("layOut()", x.layOut(), FULL);
    }

    private static void layOutClosesGroups() {
        CHECK.promise(16, "layOut, groups");
        LayeredDrawing x = new LayeredDrawing();
        int[] groups = {2, 0, 1, 2, 3, 1, 0, 2};
        for (int group : groups) {
            x.addNode(1, group);
        }
        x.layOut();
        row(x, 0, 0, 3, 7, 1, 2, 5, 4, 6);
        // nodes of a group in other layers do not count
        x.addEdge(2, 3, 0, 0, 1);
        x.layOut();
        row(x, 0, 0, 7, 1, 2, 5, 4, 6);
        row(x, 1, 3);
        // a bend belongs to no group
        for (int group = 1; group < 4; group++) {
            LayeredDrawing y = new LayeredDrawing();
            y.addNode(1, group);
            y.addNode(1, group);
            y.addNode(1, 0);
            connect(y, 0, 1, 0, 2);
            y.addEdge(0, 1, 0, 0, 2);
            y.addEdge(1, 2, 0, 0, 1);
            y.removeEdge();
            y.removeEdge();
            y.addNode(1, 0);
            y.addEdge(0, 3, 0, 0, 2);
            y.layOut();
            row(y, 1, 1, 2, 181);
        }
    }

    private static void vertices() {
        CHECK.promise(17, "vertices");
        LayeredDrawing x = withNodes(4);
        due("vertices(-1)", x.vertices(-1), NOT);
        connect(x, 0, 1, 1, 2, 0, 2);
        x.layOut();
        due("vertices(0)", x.vertices(0), 2);
        due("vertices(1)", x.vertices(1), 2);
        due("vertices(2)", x.vertices(2), 1);
        for (int wrong : new int[] {-1, 3, 33, 34, MIN, MAX}) {
            due("vertices(" + wrong + ")", x.vertices(wrong), BAD);
        }
        x.clear();
        x.layOut();
        due("vertices(0)", x.vertices(0), BAD);
    }

    private static void vertex() {
        CHECK.promise(18, "vertex");
        LayeredDrawing x = withNodes(3);
        due("vertex(9, 9)", x.vertex(9, 9), NOT);
        connect(x, 0, 1, 1, 2, 0, 2);
        x.layOut();
        due("vertex(0, 0)", x.vertex(0, 0), 0);
        due("vertex(1, 0)", x.vertex(1, 0), 1);
        due("vertex(1, 1)", x.vertex(1, 1), 181);
        for (int wrong : new int[] {-1, 3, MIN, MAX}) {
            due("vertex(" + wrong + ", 0)", x.vertex(wrong, 0), BAD);
        }
        for (int wrong : new int[] {-1, 2, MIN, MAX}) {
            due("vertex(1, " + wrong + ")", x.vertex(1, wrong), BAD);
        }
        due("vertex(0, 1)", x.vertex(0, 1), BAD);
        x.exchange(1, 0);
        due("vertex(1, 0)", x.vertex(1, 0), 181);
        due("vertex(1, 1)", x.vertex(1, 1), 1);
    }

    private static void placeOf() {
        CHECK.promise(19, "placeOf");
        LayeredDrawing x = withNodes(4);
        due("placeOf(0)", x.placeOf(0), NOT);
        due("placeOf(-1)", x.placeOf(-1), NOT);
        x.addEdge(0, 1, 0, 0, 3);
        x.addEdge(2, 3, 0, 0, 1);
        x.layOut();
        due("placeOf(2)", x.placeOf(2), 1);
        due("placeOf(3)", x.placeOf(3), 0);
        due("placeOf(101)", x.placeOf(101), 1);
        due("placeOf(102)", x.placeOf(102), 0);
        for (int wrong : new int[] {-1, 4, 11, 12, 99, 100, 103, 104, 139, 140, 141, 181, 861, 900, 901, MIN, MAX}) {
            due("placeOf(" + wrong + ")", x.placeOf(wrong), BAD);
        }
        x.exchange(1, 0);
        due("placeOf(101)", x.placeOf(101), 0);
        due("placeOf(3)", x.placeOf(3), 1);
        // the bends of an edge that was removed are gone
        x.addEdge(2, 1, 0, 0, 3);
        x.layOut();
        due("placeOf(181)", x.placeOf(181), -1 + x.vertices(1));
        x.addEdge(0, 1, 0, 0, 3);
        x.layOut();
        due("placeOf(221)", x.placeOf(221), -1 + x.vertices(1));
        x.removeEdge();
        x.layOut();
        due("placeOf(221)", x.placeOf(221), BAD);
        x.removeEdge();
        x.layOut();
        due("placeOf(181)", x.placeOf(181), BAD);
        due("placeOf(101)", x.placeOf(101), 1);
    }

    private static void crossingsBelow() {
        CHECK.promise(20, "crossingsBelow");
        LayeredDrawing x = withNodes(6);
        due("crossingsBelow(0)", x.crossingsBelow(0), NOT);
        // above: 0 1; in the middle: 2 3; below: 4 5
        connect(x, 0, 3, 1, 2, 2, 5, 3, 4, 2, 4, 3, 5);
        x.layOut();
        due("crossingsBelow(0)", x.crossingsBelow(0), 1);
        due("crossingsBelow(1)", x.crossingsBelow(1), 1);
        due("exchange(0, 0)", x.exchange(0, 0), 1);
        due("crossingsBelow(0)", x.crossingsBelow(0), 0);
        due("crossingsBelow(1)", x.crossingsBelow(1), 1);
        for (int wrong : new int[] {-1, 2, 3, MIN, MAX}) {
            due("crossingsBelow(" + wrong + ")", x.crossingsBelow(wrong), BAD);
        }
        x.clear();
        x.layOut();
        due("crossingsBelow(0)", x.crossingsBelow(0), BAD);
        due("crossingsBelow(-1)", x.crossingsBelow(-1), BAD);
    }

    private static void crossingsByPorts() {
        CHECK.promise(20, "crossingsBelow, ports");
        LayeredDrawing x = withNodes(3);
        x.addEdge(0, 1, 3, 1, 1);
        x.addEdge(0, 1, 2, 4, 1);
        x.layOut();
        due("crossingsBelow(0)", x.crossingsBelow(0), 1);
        // the same port at one end: no crossing
        x.addEdge(0, 1, 3, 5, 1);
        x.layOut();
        due("crossingsOf(0, 2)", x.crossingsOf(0, 2), 0);
        due("crossingsOf(1, 2)", x.crossingsOf(1, 2), 0);
        due("crossingsBelow(0)", x.crossingsBelow(0), 1);
        // the place comes before the port
        x.addEdge(0, 2, 0, 0, 1);
        x.layOut();
        due("crossingsOf(0, 3)", x.crossingsOf(0, 3), 1);
        due("crossingsOf(1, 3)", x.crossingsOf(1, 3), 1);
        due("crossingsBelow(0)", x.crossingsBelow(0), 4);
        // a reversed edge has the port of its target at its upper end
        LayeredDrawing y = withNodes(2);
        y.addEdge(0, 1, 1, 3, 1);
        y.addEdge(1, 0, 5, 2, 1);
        y.layOut();
        due("reversed(1)", y.reversed(1), 1);
        due("crossings()", y.crossings(), 0);
        y.removeEdge();
        y.addEdge(1, 0, 2, 5, 1);
        y.layOut();
        due("crossings()", y.crossings(), 1);
        // at a bend the port is 0: two edges between the same nodes whose bends keep the order
        LayeredDrawing z = withNodes(2);
        z.addEdge(0, 1, 7, 7, 2);
        z.addEdge(0, 1, 0, 0, 2);
        z.layOut();
        due("crossings()", z.crossings(), 2);
        due("exchange(1, 0)", z.exchange(1, 0), 0);
    }

    private static void crossings() {
        CHECK.promise(21, "crossings");
        LayeredDrawing x = withNodes(6);
        due("crossings()", x.crossings(), NOT);
        for (int upper = 0; upper < 3; upper++) {
            connect(x, upper, 3, upper, 4, upper, 5);
        }
        x.layOut();
        due("crossings()", x.crossings(), 9);
        x.addNode(1, 0);
        connect(x, 3, 6, 4, 6, 5, 6, 0, 6);
        x.layOut();
        // the bend 581 is behind 3, 4 and 5; the edge to it crosses the six of 1 and 2
        due("crossings()", x.crossings(), 9 + 6);
    }

    private static void crossingsOf() {
        CHECK.promise(22, "crossingsOf");
        LayeredDrawing x = withNodes(4);
        due("crossingsOf(0, 0)", x.crossingsOf(0, 0), NOT);
        x.addEdge(0, 3, 0, 0, 2);
        x.addEdge(1, 2, 0, 0, 2);
        x.layOut();
        due("crossingsOf(0, 1)", x.crossingsOf(0, 1), 1);
        due("crossingsOf(1, 0)", x.crossingsOf(1, 0), 1);
        x.exchange(1, 0);
        due("crossingsOf(0, 1)", x.crossingsOf(0, 1), 1);
        x.exchange(2, 0);
        due("crossingsOf(0, 1)", x.crossingsOf(0, 1), 2);
        for (int wrong : new int[] {-1, 2, 20, MIN, MAX}) {
            due("crossingsOf(0, " + wrong + ")", x.crossingsOf(0, wrong), BAD);
            due("crossingsOf(" + wrong + ", 0)", x.crossingsOf(wrong, 0), BAD);
        }
        due("crossingsOf(1, 1)", x.crossingsOf(1, 1), BAD);
        // edges between other layers do not cross, wherever their ends are
        LayeredDrawing y = withNodes(6);
        connect(y, 0, 1, 1, 2, 3, 4, 0, 5);
        y.addEdge(4, 2, 0, 0, 1);
        y.layOut();
        due("crossingsOf(1, 2)", y.crossingsOf(1, 2), 0);
        due("crossingsOf(1, 3)", y.crossingsOf(1, 3), 0);
        due("crossingsOf(2, 3)", y.crossingsOf(2, 3), 1);
    }

    private static void crossingsOfNeighbours() {
        CHECK.promise(22, "crossingsOf, parts one above the other");
        LayeredDrawing x = withNodes(5);
        // 0 to 3 passes over 2, at which 2 to 4 begins, but one layer lower
        connect(x, 0, 1, 0, 2, 0, 3, 2, 4);
        x.layOut();
        row(x, 1, 1, 2, 3);
        due("crossingsOf(2, 3)", x.crossingsOf(2, 3), 0);
        due("crossingsOf(3, 2)", x.crossingsOf(3, 2), 0);
        due("crossings()", x.crossings(), 0);
        // the same upside down: 3 to 4 ends behind 2, at which 0 to 2 ends, one layer higher
        LayeredDrawing y = withNodes(5);
        connect(y, 1, 4, 2, 4, 3, 4, 0, 2);
        y.layOut();
        row(y, 1, 1, 2, 3);
        due("crossingsOf(2, 3)", y.crossingsOf(2, 3), 0);
        due("crossingsOf(3, 2)", y.crossingsOf(3, 2), 0);
    }

    private static void sweepDown() {
        CHECK.promise(23, "sweep down");
        LayeredDrawing x = withNodes(6);
        due("sweep(true)", x.sweep(true), NOT);
        connect(x, 0, 3, 1, 2, 2, 5, 3, 4);
        x.layOut();
        // layer 1 becomes 3 2, and then layer 2 4 5 by the new places
        due("sweep(true)", x.sweep(true), 0);
        row(x, 0, 0, 1);
        row(x, 1, 3, 2);
        row(x, 2, 4, 5);
        LayeredDrawing y = new LayeredDrawing();
        y.layOut();
        due("sweep(true)", y.sweep(true), 0);
        due("sweep(false)", y.sweep(false), 0);
    }

    private static void sweepUp() {
        CHECK.promise(23, "sweep up");
        LayeredDrawing x = withNodes(6);
        due("sweep(false)", x.sweep(false), NOT);
        connect(x, 0, 3, 1, 2, 2, 5, 3, 4);
        x.layOut();
        due("sweep(false)", x.sweep(false), 0);
        row(x, 2, 4, 5);
        row(x, 1, 3, 2);
        row(x, 0, 0, 1);
        // upwards the ports of the lower ends weigh: both edges lead to 2, 0 to its port 6
        LayeredDrawing y = withNodes(3);
        y.addEdge(0, 2, 0, 6, 1);
        y.addEdge(1, 2, 7, 5, 1);
        y.layOut();
        due("sweep(true)", y.sweep(true), 1);
        due("sweep(false)", y.sweep(false), 0);
        row(y, 0, 1, 0);
    }

    private static void sweepWeights() {
        CHECK.promise(23, "sweep, weights");
        // 2 has parts from the places 0, 0 and 1, with ports 0: 8/3; 3 has one from place 0, port 2: 2
        LayeredDrawing x = withNodes(4);
        x.addEdge(0, 2, 0, 0, 1);
        x.addEdge(0, 2, 0, 0, 1);
        x.addEdge(1, 2, 0, 0, 1);
        x.addEdge(0, 3, 2, 0, 1);
        x.layOut();
        due("sweep(true)", x.sweep(true), 2);
        row(x, 1, 3, 2);
        // the same with port 3 at 0: 8/3 is less than 3
        LayeredDrawing y = withNodes(4);
        y.addEdge(0, 3, 0, 0, 1);
        y.addEdge(0, 3, 0, 0, 1);
        y.addEdge(1, 3, 0, 0, 1);
        y.addEdge(0, 2, 3, 0, 1);
        y.layOut();
        y.sweep(true);
        row(y, 1, 3, 2);
        // equal weights keep the order that they have, not that of the names
        LayeredDrawing z = withNodes(3);
        connect(z, 0, 1, 0, 2);
        z.layOut();
        due("exchange(1, 0)", z.exchange(1, 0), 0);
        due("sweep(true)", z.sweep(true), 0);
        row(z, 1, 2, 1);
        // a vertex without parts weighs 8 times its own place: 3 (place 1) and 4 (place 2) keep theirs
        LayeredDrawing w = withNodes(6);
        connect(w, 1, 2, 0, 5);
        w.layOut();
        row(w, 0, 0, 1, 3, 4);
        due("exchange(0, 0)", w.exchange(0, 0), 0);
        due("exchange(0, 1)", w.exchange(0, 1), 0);
        row(w, 0, 1, 3, 0, 4);
        due("sweep(false)", w.sweep(false), 0);
        // 1: 0, 3: 8 of its place, 0: 8 of 5's place, 4: 24
        row(w, 0, 1, 3, 0, 4);
        due("exchange(1, 0)", w.exchange(1, 0), 1);
        due("sweep(false)", w.sweep(false), 0);
        // 0: 0; 1 and 3: 8, in the order that they had
        row(w, 0, 0, 1, 3, 4);
    }

    private static void sweepWeightsOfBends() {
        CHECK.promise(23, "sweep, weights of bends");
        LayeredDrawing x = withNodes(5);
        connect(x, 0, 1, 0, 2);
        x.addEdge(0, 3, 0, 0, 2);
        connect(x, 1, 4, 2, 4);
        x.layOut();
        x.exchange(1, 1);
        row(x, 1, 1, 181, 2);
        // 3 weighs 8 of the bend, which has the port 0, 4 the middle of 0 and 16: they stay
        due("sweep(true)", x.sweep(true), 1);
        row(x, 2, 3, 4);
        due("exchange(2, 0)", x.exchange(2, 0), 1);
        due("sweep(true)", x.sweep(true), 1);
        row(x, 2, 4, 3);
    }

    private static void sweepPortsOfBends() {
        CHECK.promise(23, "sweep, a part has the port 0 at a bend");
        LayeredDrawing x = withNodes(5);
        x.addEdge(0, 1, 0, 0, 1);
        x.addEdge(0, 4, 7, 0, 1);
        x.addEdge(0, 2, 7, 7, 2);
        x.addEdge(1, 3, 3, 0, 1);
        x.addEdge(4, 3, 3, 0, 1);
        x.layOut();
        due("exchange(1, 1)", x.exchange(1, 1), x.crossings());
        row(x, 1, 1, 181, 4);
        // 2 weighs 8 of the bend; 3 weighs the middle of 3 and 19, which is 11: less than 8 and 7
        x.sweep(true);
        row(x, 1, 1, 181, 4);
        row(x, 2, 2, 3);
        // upwards: 0 weighs 8 of the bend, 1 the middle of 3 and 19
        LayeredDrawing y = withNodes(5);
        y.addEdge(1, 2, 0, 3, 1);
        y.addEdge(1, 3, 0, 3, 1);
        y.addEdge(0, 4, 7, 7, 2);
        y.addEdge(2, 4, 0, 0, 1);
        y.addEdge(3, 4, 0, 7, 1);
        y.layOut();
        due("exchange(1, 1)", y.exchange(1, 1), y.crossings());
        row(y, 1, 2, 181, 3);
        y.sweep(false);
        row(y, 1, 2, 181, 3);
        row(y, 0, 0, 1);
    }

    private static void sweepGroups() {
        CHECK.promise(23, "sweep, groups");
        LayeredDrawing x = new LayeredDrawing();
        int[] groups = {0, 0, 0, 1, 0, 1};
        for (int group : groups) {
            x.addNode(1, group);
        }
        connect(x, 0, 3, 1, 4, 2, 5);
        x.layOut();
        row(x, 1, 3, 5, 4);
        due("crossings()", x.crossings(), 1);
        // by their weights 3 4 5, and then the group is closed behind 3
        due("sweep(true)", x.sweep(true), 1);
        row(x, 1, 3, 5, 4);
        due("exchange(0, 0)", x.exchange(0, 0), 2);
        // by their weights 4 3 5
        due("sweep(true)", x.sweep(true), 0);
        row(x, 1, 4, 3, 5);
    }

    private static void sift() {
        CHECK.promise(24, "sift");
        LayeredDrawing x = withNodes(6);
        due("sift(0)", x.sift(0), NOT);
        due("sift(-1)", x.sift(-1), NOT);
        connect(x, 0, 3, 1, 4, 2, 5, 2, 4);
        x.layOut();
        due("sift(3)", x.sift(3), 0);
        due("sift(0)", x.sift(0), 0);
        due("exchange(1, 1)", x.exchange(1, 1), 1);
        row(x, 1, 3, 5, 4);
        due("sift(5)", x.sift(5), 2);
        row(x, 1, 3, 4, 5);
        // of several places the one with the lowest number, though it stands at another good one
        LayeredDrawing y = withNodes(4);
        connect(y, 0, 1);
        y.layOut();
        row(y, 0, 0, 2, 3);
        due("sift(3)", y.sift(3), 0);
        row(y, 0, 3, 0, 2);
        due("sift(1)", y.sift(1), 0);
        for (int wrong : new int[] {-1, 4, 99, 100, 101, 140, MIN, MAX}) {
            due("sift(" + wrong + ")", y.sift(wrong), BAD);
        }
        // a bend is sifted too, with the crossings above and below it
        LayeredDrawing z = withNodes(5);
        connect(z, 0, 1, 1, 2, 3, 4);
        z.addEdge(3, 2, 0, 0, 2);
        z.layOut();
        row(z, 1, 1, 4, 221);
        due("sift(221)", z.sift(221), 1);
        row(z, 1, 1, 221, 4);
    }

    private static void siftGroups() {
        CHECK.promise(24, "sift, groups");
        LayeredDrawing x = new LayeredDrawing();
        int[] groups = {1, 1, 0, 2, 2};
        for (int group : groups) {
            x.addNode(1, group);
        }
        x.layOut();
        row(x, 0, 0, 1, 2, 3, 4);
        // 4 may stand at the places 3 and 4
        due("sift(4)", x.sift(4), 3);
        row(x, 0, 0, 1, 2, 4, 3);
        // 2 may stand before, between and behind the groups
        due("sift(2)", x.sift(2), 0);
        row(x, 0, 2, 0, 1, 4, 3);
        due("sift(1)", x.sift(1), 1);
        row(x, 0, 2, 1, 0, 4, 3);

        // the place 1 between 2 and 3 would have no crossing, but they are a group
        LayeredDrawing y = new LayeredDrawing();
        for (int group : new int[] {0, 0, 0, 1, 0, 1}) {
            y.addNode(1, group);
        }
        connect(y, 0, 3, 1, 4, 2, 5);
        y.layOut();
        row(y, 1, 3, 5, 4);
        due("sift(4)", y.sift(4), 0);
        row(y, 1, 4, 3, 5);
        due("crossings()", y.crossings(), 1);
    }

    private static void siftAll() {
        CHECK.promise(25, "siftAll");
        LayeredDrawing x = withNodes(3);
        due("siftAll()", x.siftAll(), NOT);
        x.layOut();
        due("siftAll()", x.siftAll(), 0);
        // in the order of their names, each to the place 0
        row(x, 0, 2, 1, 0);
        due("siftAll()", x.siftAll(), 0);
        row(x, 0, 2, 1, 0);
        LayeredDrawing y = crossed();
        // 0 can do so by going behind 1, and then the lower layer is good
        due("siftAll()", y.siftAll(), 0);
        row(y, 0, 1, 0);
        row(y, 1, 2, 3);
        y.clear();
        y.layOut();
        due("siftAll()", y.siftAll(), 0);
        // the node 0 is sifted too: of 1 0 it goes to the place 0, and then 1 before it
        LayeredDrawing z = withNodes(2);
        z.layOut();
        z.exchange(0, 0);
        due("siftAll()", z.siftAll(), 0);
        row(z, 0, 1, 0);
        LayeredDrawing w = withNodes(1);
        w.addNode(1, 0);
        connect(w, 0, 1);
        w.addNode(1, 0);
        w.addNode(1, 0);
        w.layOut();
        row(w, 0, 0, 2, 3);
        due("siftAll()", w.siftAll(), 0);
        row(w, 0, 3, 2, 0);
    }

    /** Each vertex is sifted once: the second of two rounds would find other orders. */
    private static void siftAllIsItsSifts() {
        CHECK.promise(25, "siftAll, its sifts");
        int changedByASecondRound = 0;
        for (int step = 1; step < 60; step++) {
            LayeredDrawing x = tangled(step);
            LayeredDrawing y = tangled(step);
            siftLayerByLayer(y);
            due("siftAll()", x.siftAll(), y.crossings());
            due("checksum()", x.checksum(), y.checksum());
            siftLayerByLayer(y);
            changedByASecondRound += x.checksum() == y.checksum() ? 0 : 1;
        }
        CHECK.holds("a second round changes some", changedByASecondRound > 0);
    }

    private static void siftLayerByLayer(LayeredDrawing x) {
        for (int layer = 0; layer < x.layers(); layer++) {
            Set<Integer> names = new TreeSet<>();
            for (int place = 0; place < x.vertices(layer); place++) {
                names.add(x.vertex(layer, place));
            }
            for (int name : names) {
                x.sift(name);
            }
        }
    }

    private static void reduce() {
        CHECK.promise(26, "reduce");
        LayeredDrawing x = crossed();
        for (int wrong : new int[] {0, 7, -1, MIN, MAX}) {
            due("reduce(" + wrong + ")", x.reduce(wrong), BAD);
        }
        due("crossings()", x.crossings(), 1);
        due("reduce(1)", x.reduce(1), 0);
        due("crossings()", x.crossings(), 0);
        row(x, 0, 0, 1);
        row(x, 1, 3, 2);
        due("reduce(6)", x.reduce(6), 0);
        x.addNode(1, 0);
        due("reduce(1)", x.reduce(1), NOT);
        due("reduce(0)", x.reduce(0), NOT);
    }

    /** Twelve nodes in three layers, with edges that lead all over the place. */
    private static LayeredDrawing tangled(int step) {
        LayeredDrawing x = new LayeredDrawing();
        for (int node = 0; node < 12; node++) {
            x.addNode(1 + node % 3, node % 5 == 0 ? 1 : 0);
        }
        int mixed = step;
        for (int edge = 0; edge < 18; edge++) {
            mixed = (mixed * 421 + 1663) % 7875;
            int upper = mixed / 8 % 8;
            int lower = 4 + upper / 4 * 4 + mixed / 64 % 4;
            x.addEdge(upper, lower, mixed % 8, edge * 5 % 8, 1);
        }
        x.layOut();
        return x;
    }

    private static void reduceIsItsRounds() {
        CHECK.promise(26, "reduce, its rounds");
        for (int step = 1; step < 60; step++) {
            for (int rounds = 1; rounds <= 6; rounds++) {
                LayeredDrawing x = tangled(step);
                LayeredDrawing y = tangled(step);
                int fewest = y.crossings();
                y.keep(0);
                for (int round = 0; round < rounds; round++) {
                    y.sweep(true);
                    y.sweep(false);
                    int count = y.siftAll();
                    if (count < fewest) {
                        fewest = count;
                        y.keep(0);
                    }
                }
                y.restore(0);
                due("reduce(" + rounds + ")", x.reduce(rounds), fewest);
                due("crossings()", x.crossings(), fewest);
                due("checksum()", x.checksum(), y.checksum());
            }
        }
    }

    private static void reduceKeepsTheEarliest() {
        CHECK.promise(26, "reduce, the earliest order");
        LayeredDrawing x = withNodes(3);
        x.layOut();
        // siftAll() would turn them around, but without fewer crossings
        due("reduce(1)", x.reduce(1), 0);
        row(x, 0, 0, 1, 2);
        // the left coordinates stay with the order
        LayeredDrawing y = withNodes(5);
        connect(y, 0, 2, 1, 3, 1, 4);
        y.addNode(1, 0);
        connect(y, 1, 5);
        y.layOut();
        due("exchange(1, 1)", y.exchange(1, 1), 0);
        int width = y.align();
        due("spread()", y.spread(), 2 + 4);
        due("reduce(6)", y.reduce(6), 0);
        row(y, 1, 2, 4, 3, 5);
        due("width()", y.width(), width);
        due("spread()", y.spread(), 6);
    }

    private static void exchange() {
        CHECK.promise(27, "exchange");
        LayeredDrawing x = crossed();
        due("exchange(0, 0)", x.exchange(0, 0), 0);
        row(x, 0, 1, 0);
        due("exchange(1, 0)", x.exchange(1, 0), 1);
        due("exchange(1, 0)", x.exchange(1, 0), 0);
        for (int wrong : new int[] {-1, 1, 2, MIN, MAX}) {
            due("exchange(0, " + wrong + ")", x.exchange(0, wrong), BAD);
        }
        for (int wrong : new int[] {-1, 2, MIN, MAX}) {
            due("exchange(" + wrong + ", 0)", x.exchange(wrong, 0), BAD);
        }
        row(x, 0, 1, 0);
        x.setGroup(0, 2);
        due("exchange(0, 0)", x.exchange(0, 0), NOT);
        LayeredDrawing y = new LayeredDrawing();
        for (int group : new int[] {1, 1, 0, 2}) {
            y.addNode(2, group);
        }
        y.layOut();
        due("exchange(0, 1)", y.exchange(0, 1), BAD);
        row(y, 0, 0, 1, 2, 3);
        due("exchange(0, 0)", y.exchange(0, 0), 0);
        due("exchange(0, 2)", y.exchange(0, 2), 0);
        row(y, 0, 1, 0, 3, 2);
        // 0 and 3 would tear the group 1 apart
        due("exchange(0, 1)", y.exchange(0, 1), BAD);
        row(y, 0, 1, 0, 3, 2);
        lefts(y, 1, 0, 0, 3, 3, 6, 2, 9);
    }

    // ---- coordinates

    /** 0 (width 5) and 1 above 2 (width 2) and 3, with 0 to 2, 1 to 2 and 1 to 3; laid out. */
    private static LayeredDrawing slanted() {
        LayeredDrawing x = new LayeredDrawing();
        x.addNode(5, 0);
        x.addNode(1, 0);
        x.addNode(2, 0);
        x.addNode(1, 0);
        connect(x, 0, 2, 1, 2, 1, 3);
        due("layOut()", x.layOut(), 4);
        return x;
    }

    private static void align() {
        CHECK.promise(28, "align");
        LayeredDrawing x = slanted();
        lefts(x, 0, 0, 1, 6, 2, 0, 3, 3);
        // 3 wants 6; 2 wants the lower one of 0 and 6
        due("align()", x.align(), 7);
        lefts(x, 0, 0, 1, 6, 2, 0, 3, 6);
        due("align()", x.align(), 7);
        // with one more edge 1 to 2 it wants 6, but 3 allows only 3
        connect(x, 1, 2);
        due("align()", x.align(), NOT);
        x.layOut();
        due("align()", x.align(), 7);
        lefts(x, 2, 3, 3, 6);
        // one below 3 follows it, and one without an edge stays
        LayeredDrawing y = slanted();
        y.addNode(4, 0);
        y.addNode(1, 0);
        connect(y, 3, 4);
        y.layOut();
        row(y, 0, 0, 1, 5);
        due("align()", y.align(), 10);
        lefts(y, 5, 8, 3, 6, 4, 6);
        // further to the right already: 2 and 3 below the narrow 0, at which both want to be
        LayeredDrawing z = withNodes(3);
        connect(z, 0, 1, 0, 2);
        z.layOut();
        due("align()", z.align(), 3);
        lefts(z, 1, 0, 2, 2);
        LayeredDrawing w = new LayeredDrawing();
        w.layOut();
        due("align()", w.align(), 0);
    }

    private static void alignMiddle() {
        CHECK.promise(28, "align, the middle one");
        for (int count = 1; count < 6; count++) {
            LayeredDrawing x = withNodes(6);
            for (int upper = count - 1; upper >= 0; upper--) {
                connect(x, upper, 5);
            }
            x.layOut();
            x.align();
            due("left(5) with " + count + " parts", x.left(5), 2 * ((count - 1) / 2));
        }
        // several parts from the same vertex count each
        LayeredDrawing y = withNodes(3);
        connect(y, 0, 2, 1, 2, 1, 2);
        y.layOut();
        y.align();
        due("left(2)", y.left(2), 2);
    }

    private static void alignStays() {
        CHECK.promise(28, "align, kept by calls that keep the order");
        for (int call = 0; call < 6; call++) {
            LayeredDrawing x = slanted();
            x.align();
            switch (call) {
                case 0 -> due("sweep(true)", x.sweep(true), 0);
                case 1 -> due("sweep(false)", x.sweep(false), 0);
                case 2 -> due("sift(3)", x.sift(3), 1);
                case 3 -> due("siftAll()", x.siftAll(), 0);
                case 4 -> due("reduce(2)", x.reduce(2), 0);
                default -> due("exchange(1, 1)", x.exchange(1, 1), BAD);
            }
            lefts(x, 0, 0, 1, 6, 2, 0, 3, 6);
        }
    }

    private static void alignIsUndone() {
        CHECK.promise(28, "align, undone by another order");
        LayeredDrawing x = slanted();
        x.align();
        // calls that leave the order leave the coordinates
        due("sift(2)", x.sift(2), 0);
        due("sweep(true)", x.sweep(true), 0);
        due("siftAll()", x.siftAll(), 0);
        due("exchange(1, 1)", x.exchange(1, 1), BAD);
        due("left(3)", x.left(3), 6);
        // one that changes it moves all layers to the left again
        due("exchange(0, 0)", x.exchange(0, 0), 1);
        lefts(x, 1, 0, 0, 2, 2, 0, 3, 3);
        x.align();
        due("left(3)", x.left(3), 3);
        due("sift(1)", x.sift(1), 1);
        lefts(x, 0, 0, 1, 6, 3, 3);
        x.exchange(1, 0);
        x.align();
        due("left(2)", x.left(2), 2);
        due("sweep(true)", x.sweep(true), 0);
        lefts(x, 2, 0, 3, 3);
        x.exchange(0, 0);
        x.align();
        due("siftAll()", x.siftAll(), 0);
        lefts(x, 0, 0, 1, 6, 2, 0, 3, 3);
        x.exchange(0, 0);
        x.align();
        due("reduce(1)", x.reduce(1), 0);
        due("left(3)", x.left(x.vertex(1, 0)), 0);
    }

    private static void left() {
        CHECK.promise(29, "left");
        LayeredDrawing x = slanted();
        for (int wrong : new int[] {-1, 4, 99, 100, 101, 140, 900, MIN, MAX}) {
            due("left(" + wrong + ")", x.left(wrong), BAD);
        }
        // a bend covers one unit
        x.addEdge(0, 3, 0, 0, 2);
        x.layOut();
        row(x, 1, 2, 181, 221);
        lefts(x, 0, 0, 1, 6, 2, 0, 181, 3, 221, 5, 3, 0);
        x.removeEdge();
        due("left(0)", x.left(0), NOT);
        due("left(-1)", x.left(-1), NOT);
    }

    private static void width() {
        CHECK.promise(30, "width");
        LayeredDrawing x = new LayeredDrawing();
        due("width()", x.width(), NOT);
        x.layOut();
        due("width()", x.width(), 0);
        x.addNode(9, 0);
        x.layOut();
        due("width()", x.width(), 9);
        x.addNode(8, 0);
        x.layOut();
        due("width()", x.width(), 18);
        connect(x, 0, 1);
        x.layOut();
        due("width()", x.width(), 9);
        due("slanted width()", slanted().width(), 7);
    }

    private static void spread() {
        CHECK.promise(31, "spread");
        LayeredDrawing x = slanted();
        due("spread()", x.spread(), 0 + 6 + 3);
        x.align();
        due("spread()", x.spread(), 0 + 6 + 0);
        // a long edge has several parts: 0 to its bend, and from there to 3
        x.addEdge(2, 3, 0, 0, 1);
        due("spread()", x.spread(), NOT);
        x.layOut();
        row(x, 1, 2, 181);
        lefts(x, 0, 0, 1, 6, 2, 0, 181, 3, 3, 0);
        due("spread()", x.spread(), 0 + 6 + (3 + 3) + 0);
        x.clear();
        x.layOut();
        due("spread()", x.spread(), 0);
    }

    private static void straight() {
        CHECK.promise(32, "straight");
        LayeredDrawing x = slanted();
        due("straight(0)", x.straight(0), 1);
        due("straight(1)", x.straight(1), 0);
        due("straight(2)", x.straight(2), 0);
        x.align();
        due("straight(2)", x.straight(2), 1);
        for (int wrong : new int[] {-1, 3, 20, MIN, MAX}) {
            due("straight(" + wrong + ")", x.straight(wrong), BAD);
        }
        x.clear();
        due("straight(0)", x.straight(0), NOT);
        due("straight(-1)", x.straight(-1), NOT);
        LayeredDrawing y = withNodes(2);
        y.addEdge(0, 1, 0, 0, 3);
        y.layOut();
        due("straight(0)", y.straight(0), 3);
    }

    private static void border() {
        CHECK.promise(33, "border");
        LayeredDrawing x = new LayeredDrawing();
        due("border(0, 0)", x.border(0, 0), NOT);
        // above: 0 (width 3), 1 (width 2, group 1); below: 2 (width 9, group 1), 3 (width 1)
        x.addNode(3, 0);
        x.addNode(2, 1);
        x.addNode(9, 1);
        x.addNode(1, 3);
        x.addEdge(1, 2, 0, 0, 2);
        x.addEdge(0, 3, 0, 0, 2);
        x.layOut();
        int[] want = {0, 9, 0, 2};
        for (int side = 0; side < 4; side++) {
            due("border(1, " + side + ")", x.border(1, side), want[side]);
            due("border(2, " + side + ")", x.border(2, side), NONE);
        }
        due("border(3, 0)", x.border(3, 0), 10);
        due("border(3, 1)", x.border(3, 1), 11);
        due("border(3, 2)", x.border(3, 2), 2);
        due("border(3, 3)", x.border(3, 3), 2);
        x.setGroup(1, 2);
        x.layOut();
        due("border(2, 0)", x.border(2, 0), 4);
        due("border(2, 1)", x.border(2, 1), 6);
        due("border(2, 3)", x.border(2, 3), 0);
        due("border(1, 2)", x.border(1, 2), 2);
        for (int wrong : new int[] {-1, 0, 4, MIN, MAX}) {
            due("border(" + wrong + ", 0)", x.border(wrong, 0), BAD);
        }
        for (int wrong : new int[] {-1, 4, MIN, MAX}) {
            due("border(1, " + wrong + ")", x.border(1, wrong), BAD);
        }
        x.clear();
        x.layOut();
        due("border(1, 4)", x.border(1, 4), BAD);
        due("border(1, 3)", x.border(1, 3), NONE);
    }

    private static void intruders() {
        CHECK.promise(34, "intruders");
        LayeredDrawing x = new LayeredDrawing();
        due("intruders(9)", x.intruders(9), NOT);
        x.addNode(3, 0);
        x.addNode(2, 1);
        x.addNode(9, 1);
        x.addNode(1, 3);
        x.addEdge(1, 2, 0, 0, 2);
        x.addEdge(0, 3, 0, 0, 2);
        x.layOut();
        // 0 is in it; 3 begins at 10, behind its right side 9; bends do not count
        due("intruders(1)", x.intruders(1), 1);
        due("intruders(3)", x.intruders(3), 0);
        due("intruders(2)", x.intruders(2), NONE);
        for (int wrong : new int[] {-1, 0, 4, MIN, MAX}) {
            due("intruders(" + wrong + ")", x.intruders(wrong), BAD);
        }
        // the right side itself is not covered: 1 from 2 to 4 below 0 from 0 to 1, and 2 from 0 to 2
        LayeredDrawing y = new LayeredDrawing();
        y.addNode(2, 1);
        y.addNode(1, 0);
        y.addNode(1, 1);
        y.addNode(3, 0);
        connect(y, 0, 2);
        y.addEdge(1, 3, 0, 0, 1);
        y.layOut();
        lefts(y, 0, 0, 1, 3, 2, 0, 3, 2);
        due("border(1, 1)", y.border(1, 1), 2);
        due("intruders(1)", y.intruders(1), 0);
        // one unit more, and 3 covers a unit of it
        LayeredDrawing z = new LayeredDrawing();
        z.addNode(3, 1);
        z.addNode(1, 0);
        z.addNode(1, 1);
        z.addNode(3, 2);
        z.addNode(1, 0);
        connect(z, 0, 2, 1, 3, 3, 4);
        z.layOut();
        lefts(z, 0, 0, 2, 0, 3, 2, 4, 0);
        due("intruders(1)", z.intruders(1), 1);
        // 2 leaves group 1: its layer is then outside of the border
        z.setGroup(2, 0);
        z.layOut();
        due("intruders(1)", z.intruders(1), 0);
        // the left side itself: 2 ends at 2, where the group begins
        LayeredDrawing w = new LayeredDrawing();
        w.addNode(1, 0);
        w.addNode(1, 1);
        w.addNode(2, 0);
        w.addNode(1, 1);
        connect(w, 0, 2, 1, 3);
        w.layOut();
        due("border(1, 0)", w.border(1, 0), 2);
        due("intruders(1)", w.intruders(1), 0);
        // the left side: 3 is from 2 to 5, 2 from 0 to 1
        due("border(2, 0)", z.border(2, 0), 2);
        due("intruders(2)", z.intruders(2), 0);
    }

    // ---- texts

    private static void append() {
        CHECK.promise(35, "append");
        LayeredDrawing x = new LayeredDrawing();
        for (int wrong : new int[] {31, 127, 0, -1, 65536 + 48, MIN, MAX}) {
            due("append(" + wrong + ")", x.append(wrong), BAD);
        }
        due("append(32)", x.append(32), 1);
        due("append(126)", x.append(126), 2);
        for (int length = 3; length <= 100; length++) {
            due("append(48)", x.append(48), length);
        }
        due("append(48)", x.append(48), FULL);
        due("append(31)", x.append(31), BAD);
        due("append(127)", x.append(127), BAD);
        due("clearText()", x.clearText(), 100);
        due("append(48)", x.append(48), 1);
    }

    private static void clearText() {
        CHECK.promise(36, "clearText");
        LayeredDrawing x = withNodes(2);
        due("clearText()", x.clearText(), 0);
        write(x, "0>1;?");
        due("faultPosition()", x.faultPosition(), 4);
        due("clearText()", x.clearText(), 5);
        due("faultPosition()", x.faultPosition(), NONE);
        due("clearText()", x.clearText(), 0);
        due("read()", x.read(), 0);
    }

    private static void faultOfSigns() {
        CHECK.promise(37, "faultPosition, signs");
        LayeredDrawing x = withNodes(3);
        fault(x, "", NONE);
        fault(x, "0>1;", NONE);
        fault(x, "0.7>1.0=3;2>0=1;1>2.7;", NONE);
        String whole = "0.7>1.6=3;";
        for (int length = 1; length < whole.length(); length++) {
            fault(x, whole.substring(0, length), length);
        }
        // a sign that fits nowhere, at each place of the text
        for (int at = 0; at <= whole.length(); at++) {
            fault(x, whole.substring(0, at) + " " + whole.substring(at), at);
        }
        fault(x, "0.0>1.0;", NONE);
        fault(x, ";", 0);
        fault(x, ">1;", 0);
        fault(x, "0;", 1);
        fault(x, "0=1>1;", 1);
        fault(x, "0..1>1;", 2);
        fault(x, "0.8>1;", 2);
        fault(x, "0.11>1;", 3);
        fault(x, "0.>1;", 2);
        fault(x, "0>>1;", 2);
        fault(x, "0>1>2;", 3);
        fault(x, "0>1.8;", 4);
        fault(x, "0>1.1.1;", 5);
        fault(x, "0>1=0;", 4);
        fault(x, "0>1=4;", 4);
        fault(x, "0>1=;", 4);
        fault(x, "0>1=11;", 5);
        fault(x, "0>1=1.1;", 5);
        fault(x, "0>1=1=1;", 5);
        fault(x, "0>1;;", 4);
        fault(x, "0>1;0>1", 7);
        fault(x, "a", 0);
        fault(x, "/", 0);
        fault(x, ":", 0);
    }

    private static void faultOfNumbers() {
        CHECK.promise(37, "faultPosition, numbers");
        LayeredDrawing x = withNodes(12);
        fault(x, "0>11;10>9;", NONE);
        fault(x, "00>1;", 1);
        fault(x, "01>2;", 1);
        fault(x, "1>00;", 3);
        fault(x, "110>1;", 2);
        fault(x, "1>110;", 4);
        fault(x, "12>1;", 0);
        fault(x, "1>12;", 2);
        fault(x, "99", 0);
        fault(x, "0>1;0>20;", 6);
        fault(x, "3>3;", 2);
        fault(x, "11>11;", 3);
        fault(x, "0.1>0.2;", 4);
        fault(x, "1>10;", NONE);
        fault(x, "10>1;", NONE);
        fault(x, "10>1;1>1;", 7);
        // the number 1 ends with the text, and it is the source
        fault(x, "1>1", 2);
        fault(x, "1>", 2);
    }

    private static void faultFollowsTheGraph() {
        CHECK.promise(37, "faultPosition, nodes");
        LayeredDrawing x = new LayeredDrawing();
        fault(x, "0>1;", 0);
        x.addNode(1, 0);
        due("faultPosition()", x.faultPosition(), 2);
        x.addNode(1, 0);
        due("faultPosition()", x.faultPosition(), NONE);
        x.clear();
        due("faultPosition()", x.faultPosition(), 0);
    }

    private static void read() {
        CHECK.promise(38, "read");
        LayeredDrawing x = withNodes(12);
        connect(x, 4, 5);
        write(x, "0.7>1.6=3;11>10;2>3.1;2.2>3=2;");
        due("read()", x.read(), 4);
        due("edges()", x.edges(), 5);
        int[][] want = {{4, 5, 0, 0, 1}, {0, 1, 7, 6, 3}, {11, 10, 0, 0, 1}, {2, 3, 0, 1, 1}, {2, 3, 2, 0, 2}};
        for (int edge = 0; edge < 5; edge++) {
            for (int what = 0; what < 5; what++) {
                due("edge(" + edge + ", " + what + ")", x.edge(edge, what), want[edge][what]);
            }
        }
        due("layerOf(1)", x.layerOf(1), 3);
        // the text stays, so it can be read again
        due("read()", x.read(), 4);
        due("edges()", x.edges(), 9);
        due("clearText()", x.clearText(), 30);
        due("read() of nothing", x.read(), 0);
        write(x, "0>1;1>2");
        due("read()", x.read(), NOT);
        due("edges()", x.edges(), 9);
    }

    private static void readFull() {
        CHECK.promise(38, "read, FULL");
        LayeredDrawing x = withNodes(2);
        String twenty = "0>1;0>1;0>1;0>1;0>1;0>1;0>1;0>1;0>1;0>1;0>1;0>1;0>1;0>1;0>1;0>1;0>1;0>1;0>1;0>1;";
        write(x, twenty + "0>1;");
        due("read() of 21", x.read(), FULL);
        due("edges()", x.edges(), 0);
        write(x, twenty + "0>1;0>1;0>1;0>1;0>1;");
        due("read() of 25", x.read(), FULL);
        write(x, twenty);
        due("read() of 20", x.read(), 20);
        due("layOut()", x.layOut(), 2);
        due("read() of 20 more", x.read(), FULL);
        due("crossings()", x.crossings(), 0);
        x.append(';');
        due("read() with a fault", x.read(), NOT);
        x.clearText();
        due("read() of nothing", x.read(), 0);
        due("crossings()", x.crossings(), NOT);
        write(x, "0>1;");
        x.removeEdge();
        due("read() of the last one", x.read(), 1);
        due("read() of one too many", x.read(), FULL);
    }

    // ---- slots, checksum

    private static void keep() {
        CHECK.promise(39, "keep");
        LayeredDrawing x = new LayeredDrawing();
        for (int wrong : new int[] {-1, 2, MIN, MAX}) {
            due("keep(" + wrong + ")", x.keep(wrong), BAD);
        }
        due("keep(0)", x.keep(0), 0);
        x.addNode(4, 2);
        x.addNode(4, 2);
        due("keep(1)", x.keep(1), 2);
        x.addNode(1, 0);
        due("restore(0)", x.restore(0), 0);
        due("restore(1)", x.restore(1), 2);
        x.addNode(1, 0);
        // in place of what the slot keeps
        due("keep(1)", x.keep(1), 3);
        x.clear();
        due("restore(1)", x.restore(1), 3);
        due("setGroup(1, 0)", x.setGroup(1, 0), 2);
        // keeping changes nothing
        x.layOut();
        long sum = x.checksum();
        x.keep(0);
        due("checksum()", x.checksum(), sum);
    }

    private static void restore() {
        CHECK.promise(40, "restore");
        LayeredDrawing x = slanted();
        for (int wrong : new int[] {-1, 2, MIN, MAX}) {
            due("restore(" + wrong + ")", x.restore(wrong), BAD);
        }
        due("restore(1)", x.restore(1), NOT);
        due("exchange(0, 0)", x.exchange(0, 0), 1);
        x.exchange(0, 0);
        x.align();
        long sum = x.checksum();
        x.keep(0);
        write(x, "0>1;");
        x.layOut();
        x.exchange(1, 0);
        due("restore(0)", x.restore(0), 4);
        // the order and the aligned coordinates are as they were kept
        row(x, 1, 2, 3);
        lefts(x, 0, 0, 1, 6, 2, 0, 3, 6);
        due("checksum()", x.checksum(), sum);
        due("clearText()", x.clearText(), 4);
        // the slot keeps it, whatever happens to the drawing
        x.exchange(0, 0);
        x.setGroup(0, 1);
        x.removeEdge();
        x.addEdge(3, 2, 1, 1, 3);
        x.addNode(1, 0);
        due("restore(0)", x.restore(0), 4);
        due("checksum()", x.checksum(), sum);
        due("setGroup(0, 1)", x.setGroup(0, 1), 0);
        // what was kept without a layout is restored without one
        x.keep(1);
        x.restore(0);
        due("crossings()", x.crossings(), 0);
        due("restore(1)", x.restore(1), 4);
        due("crossings()", x.crossings(), NOT);
        due("setGroup(0, 0)", x.setGroup(0, 0), 1);
    }

    private static void restoreEverything() {
        CHECK.promise(40, "restore, everything");
        LayeredDrawing x = new LayeredDrawing();
        for (int node = 0; node < 4; node++) {
            x.addNode(9 - node, node);
        }
        x.addEdge(0, 1, 1, 2, 3);
        x.addEdge(1, 0, 3, 4, 1);
        x.addEdge(2, 3, 5, 6, 2);
        x.layOut();
        x.exchange(1, 0);
        x.exchange(1, 1);
        row(x, 1, 141, 181, 101);
        long sum = x.checksum();
        x.keep(1);
        // another graph, with other bends
        x.clear();
        for (int node = 0; node < 5; node++) {
            x.addNode(1, 0);
        }
        x.addEdge(4, 3, 0, 0, 2);
        x.layOut();
        due("restore(1)", x.restore(1), 4);
        due("checksum()", x.checksum(), sum);
        row(x, 1, 141, 181, 101);
        due("placeOf(141)", x.placeOf(141), 0);
        due("reversed(1)", x.reversed(1), 1);
        int[][] want = {{0, 1, 1, 2, 3}, {1, 0, 3, 4, 1}, {2, 3, 5, 6, 2}};
        for (int edge = 0; edge < 3; edge++) {
            for (int what = 0; what < 5; what++) {
                due("edge(" + edge + ", " + what + ")", x.edge(edge, what), want[edge][what]);
            }
        }
        due("border(3, 1)", x.border(3, 1) - x.border(3, 0), 6);
        due("border(2, 1)", x.border(2, 1) - x.border(2, 0), 7);
        due("width()", x.width(), 17);
        // changes of the order go on from what was restored, and the order then counts as changed
        due("exchange(1, 0)", x.exchange(1, 0), x.crossings());
        row(x, 1, 181, 141, 101);
    }

    private static long sum(long... values) {
        long h = 53;
        for (long value : values) {
            h = 31 * h + value;
        }
        return h;
    }

    private static void checksum() {
        CHECK.promise(41, "checksum");
        LayeredDrawing x = withNodes(3);
        due("checksum()", x.checksum(), sum(3, 0, 0, 0, 0, 1, 0));
        connect(x, 0, 1);
        x.addEdge(1, 0, 0, 0, 2);
        // nodes, edges; not reversed, 2; reversed, 2; the layers of 0, 1 and 2; layers, total length
        due("checksum()", x.checksum(), sum(3, 2, 0, 2, 1, 2, 0, 2, 0, 3, 4));
        x.layOut();
        // crossings, width, spread; 0 2; 101 141; 1
        due("checksum()", x.checksum(),
            sum(3, 2, 0, 2, 1, 2, 0, 2, 0, 3, 4, 0, 3, 4, 0, 0, 2, 2, 101, 0, 141, 2, 1, 0));
        x.exchange(0, 0);
        due("checksum()", x.checksum(),
            sum(3, 2, 0, 2, 1, 2, 0, 2, 0, 3, 4, 0, 3, 4, 2, 0, 0, 2, 101, 0, 141, 2, 1, 0));
        x.align();
        // 141 wants the 2 of node 0, 101 too, which 141 forbids; 1 wants the lower one of 0 and 2
        due("checksum()", x.checksum(),
            sum(3, 2, 0, 2, 1, 2, 0, 2, 0, 3, 4, 0, 3, 4, 2, 0, 0, 2, 101, 0, 141, 2, 1, 0));
        x.clear();
        x.layOut();
        due("checksum()", x.checksum(), sum(0, 0, 0, 0, 0, 0, 0));
        due("checksum() of crossed ones", crossed().checksum(),
            sum(4, 2, 0, 1, 0, 1, 0, 0, 1, 1, 2, 2, 1, 3, 4, 0, 0, 1, 2, 2, 0, 3, 2));
    }
}
