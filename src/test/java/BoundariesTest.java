import java.math.BigInteger;
import java.util.ArrayList;
import java.util.List;

/**
 * For each sentence of the document that names a bound: what holds just within it, promise by promise. What is just
 * beyond it is refused, which RefusalsTest and TextFaultsTest show.
 */
public final class BoundariesTest extends Steps {
    private static final int MAX_CALLS = 512;

    public static void main(String[] args) {
        graph();
        directions();
        layers();
        vertices();
        crossings();
        sweeps();
        sifting();
        rounds();
        exchanges();
        coordinates();
        borders();
        texts();
        slots();
        checksums();
        theLastCall();
        CHECK.end();
    }

    private static void graph() {
        twelveNodes();
        widthsAndGroups();
        twentyEdges();
        severalEdgesBetweenTheSameNodes();
        portsAndLeastLengths();
        clearOfNothing();
        lastEdgeRemoved();
        changesWithoutEffectUndoTheLayout();
    }

    private static void directions() {
        noReversal();
        deepestVisit();
        mostReversals();
        endedIsNotReversed();
        nodesInAscendingOrder();
    }

    private static void layers() {
        layersWithoutEdges();
        layersOfLeastLengths();
        mostLayers();
        longestTotal();
        lowLayers();
    }

    private static void vertices() {
        emptyLayout();
        noBend();
        longestEdge();
        bendsOfTheLastEdge();
        sixtyVertices();
        namesFirst();
        groupsClosedAtFirst();
    }

    private static void crossings() {
        noCrossings();
        mostCrossings();
        samePlaceAndPort();
        crossInEachPart();
        onlyBetweenTheSameLayers();
        crossingsBelowTheFirstAndTheLastButOne();
    }

    private static void sweeps() {
        sweepOfFewLayers();
        firstOrLastLayerStays();
        exactFractions();
        equalFractions();
        withoutParts();
        newPlacesCount();
        sweepClosesGroups();
    }

    private static void sifting() {
        siftAlone();
        siftToTheLowestNumber();
        siftToFewest();
        siftWithGroups();
        siftAllOfNothing();
    }

    private static void rounds() {
        roundsOfNothing();
        oneRoundAndSix();
        noRoundIsBetter();
    }

    private static void exchanges() {
        exchangeFirstAndLast();
        exchangeWholeGroups();
    }

    private static void coordinates() {
        asFarToTheLeft();
        firstLayerStays();
        alignOfNothing();
        withoutLimit();
        upToTheNext();
        atTheDesiredOne();
        lowerOfTheMiddle();
        alignTwice();
        sameOrderStaysAligned();
        otherOrderIsPacked();
        widthOfAll();
        spreadOfAllParts();
        straightParts();
    }

    private static void borders() {
        borderOfOne();
        borderOfAll();
        touchingIsNoIntruder();
        layersOfTheBorder();
    }

    private static void texts() {
        allSigns();
        aHundredCharacters();
        emptyTextAgain();
        readNothing();
        readTwenty();
        readDefaults();
        readAHundredCharacters();
    }

    private static void slots() {
        keepNothing();
        keepFull();
        slotsAreApart();
        keptWithoutLayout();
        restoreIsNotPacked();
        textStays();
    }

    private static void checksums() {
        checksumOfNothing();
        checksumAtTheOverflow();
        checksumFarBeyond();
    }

    // ---- the graph

    private static void twelveNodes() {
        CHECK.promise(3, "12 nodes, numbered from 0 in the order in which they are added");
        LayeredDrawing x = withNodes(12);
        due("nodes()", x.nodes(), 12);
        due("addNode(1, 0)", x.addNode(1, 0), FULL);
        due("nodes()", x.nodes(), 12);
        CHECK.promise(2, "clear of 12 nodes");
        due("clear()", x.clear(), 12);
        due("nodes()", x.nodes(), 0);
        for (int node = 0; node < 12; node++) {
            due("addNode(9, 3)", x.addNode(9, 3), node);
        }
        due("addNode(9, 3)", x.addNode(9, 3), FULL);
    }

    private static void widthsAndGroups() {
        CHECK.promise(3, "a width from 1 to 9, one of the groups 1 to 3, or none");
        for (int width = 1; width <= 9; width++) {
            for (int group = 0; group <= 3; group++) {
                LayeredDrawing x = new LayeredDrawing();
                due("addNode(" + width + ", " + group + ")", x.addNode(width, group), 0);
                x.layOut();
                due("width()", x.width(), width);
                for (int other = 1; other <= 3; other++) {
                    due("border(" + other + ", 1)", x.border(other, 1), other == group ? width : NONE);
                }
                CHECK.promise(6, "setGroup, the groups 0 to 3");
                for (int other = 0; other <= 3; other++) {
                    due("setGroup(0, " + other + ")", x.setGroup(0, other), other == 0 ? group : other - 1);
                }
            }
        }
    }

    private static void twentyEdges() {
        CHECK.promise(4, "20 edges, numbered from 0 in the order in which they are added");
        LayeredDrawing x = withNodes(12);
        for (int edge = 0; edge < 20; edge++) {
            due("addEdge", x.addEdge(edge % 11, 11, 0, 0, 1), edge);
        }
        due("addEdge(0, 1, 0, 0, 1)", x.addEdge(0, 1, 0, 0, 1), FULL);
        due("edges()", x.edges(), 20);
        due("edge(19, 0)", x.edge(19, 0), 19 % 11);
        CHECK.promise(5, "the edge with the highest number");
        due("removeEdge()", x.removeEdge(), 19);
        due("edge(19, 0)", x.edge(19, 0), BAD);
        due("addEdge(5, 6, 1, 2, 3)", x.addEdge(5, 6, 1, 2, 3), 19);
        due("edge(19, 0)", x.edge(19, 0), 5);
        due("addEdge(0, 1, 0, 0, 1)", x.addEdge(0, 1, 0, 0, 1), FULL);
        CHECK.promise(2, "clear removes all nodes and edges");
        due("clear()", x.clear(), 12);
        due("edges()", x.edges(), 0);
        due("removeEdge()", x.removeEdge(), NOT);
    }

    private static void severalEdgesBetweenTheSameNodes() {
        CHECK.promise(4, "several edges between the same nodes");
        LayeredDrawing x = withNodes(2);
        for (int edge = 0; edge < 20; edge++) {
            due("addEdge(0, 1, 3, 3, 1)", x.addEdge(0, 1, 3, 3, 1), edge);
        }
        due("totalLength()", x.totalLength(), 20);
        due("layOut()", x.layOut(), 2);
        due("crossings()", x.crossings(), 0);
    }

    private static void portsAndLeastLengths() {
        CHECK.promise(4, "ports from 0 to 7, a least length from 1 to 3");
        LayeredDrawing x = withNodes(12);
        int[][] edges = {{11, 0, 0, 7, 1}, {0, 11, 7, 0, 3}, {10, 11, 7, 7, 2}, {1, 0, 0, 0, 3}};
        for (int edge = 0; edge < edges.length; edge++) {
            int[] e = edges[edge];
            due("addEdge " + edge, x.addEdge(e[0], e[1], e[2], e[3], e[4]), edge);
        }
        CHECK.promise(9, "0 for the source to 4 for the least length");
        for (int edge = 0; edge < edges.length; edge++) {
            for (int what = 0; what < 5; what++) {
                due("edge(" + edge + ", " + what + ")", x.edge(edge, what), edges[edge][what]);
            }
        }
    }

    private static void clearOfNothing() {
        CHECK.promise(2, "clear of an empty graph");
        LayeredDrawing x = new LayeredDrawing();
        due("clear()", x.clear(), 0);
        due("layOut()", x.layOut(), 0);
        due("width()", x.width(), 0);
        due("clear()", x.clear(), 0);
        due("width() after clear()", x.width(), NOT);
    }

    private static void lastEdgeRemoved() {
        CHECK.promise(5, "removeEdge until there are none");
        LayeredDrawing x = withNodes(12);
        for (int edge = 0; edge < 20; edge++) {
            x.addEdge(edge % 11, 11, 0, 0, 1);
        }
        for (int left = 19; left >= 0; left--) {
            due("removeEdge()", x.removeEdge(), left);
            due("edges()", x.edges(), left);
        }
        due("removeEdge()", x.removeEdge(), NOT);
        due("nodes()", x.nodes(), 12);
        due("layers()", x.layers(), 1);
    }

    private static void changesWithoutEffectUndoTheLayout() {
        CHECK.promise(16, "after each such call that returns no error, it is not laid out");
        for (int change = 0; change < 3; change++) {
            LayeredDrawing x = withNodes(2);
            due("layOut()", x.layOut(), 2);
            switch (change) {
                case 0 -> due("setGroup(1, 0), its group", x.setGroup(1, 0), 0);
                case 1 -> due("read() of no edges", x.read(), 0);
                default -> due("clear()", x.clear(), 2);
            }
            due("crossings()", x.crossings(), NOT);
            due("layOut()", x.layOut(), change == 2 ? 0 : 2);
            due("crossings()", x.crossings(), 0);
        }
        LayeredDrawing y = withNodes(1);
        y.layOut();
        CHECK.promise(35, "append does not undo the layout, nor do the questions");
        y.append('0');
        y.faultPosition();
        y.clearText();
        y.keep(0);
        y.edge(0, 0);
        due("width()", y.width(), 1);
    }

    // ---- directions

    private static void noReversal() {
        CHECK.promise(11, "reversals without nodes, without edges");
        due("reversals()", new LayeredDrawing().reversals(), 0);
        due("reversals()", withNodes(12).reversals(), 0);
        CHECK.promise(10, "an edge is reversed if the visit of its target has begun and has not ended");
        LayeredDrawing x = withNodes(2);
        connect(x, 1, 0);
        due("reversed(0)", x.reversed(0), 0);
        connect(x, 0, 1);
        due("reversed(0)", x.reversed(0), 1);
        due("reversed(1)", x.reversed(1), 0);
    }

    private static void deepestVisit() {
        CHECK.promise(10, "a visit of 12 nodes within one another");
        LayeredDrawing x = withNodes(12);
        connect(x, 0, 11);
        for (int node = 11; node > 1; node--) {
            connect(x, node, node - 1);
        }
        for (int back = 0; back < 9; back++) {
            connect(x, 1, back == 1 ? 11 : back);
            int added = x.edges() - 1;
            due("reversed(" + added + ")", x.reversed(added), 1);
            if (back == 0) {
                // the edge 1 to 0 leads from 0 to 1, and is as long as the chain
                due("lengthOf(11)", x.lengthOf(11), 11);
                due("layerOf(1)", x.layerOf(1), 11);
                due("reversals()", x.reversals(), 1);
            }
        }
        due("edges()", x.edges(), 20);
        due("reversals()", x.reversals(), 9);
    }

    private static void mostReversals() {
        CHECK.promise(11, "all edges but one are reversed");
        LayeredDrawing x = withNodes(2);
        connect(x, 0, 1);
        for (int edge = 1; edge < 20; edge++) {
            x.addEdge(1, 0, 7, 0, 1 + edge % 3);
            due("reversed(" + edge + ")", x.reversed(edge), 1);
        }
        due("reversals()", x.reversals(), 19);
        due("reversed(0)", x.reversed(0), 0);
        // they lead down as the first one does, each as long as the longest least length
        due("totalLength()", x.totalLength(), 60);
        due("layerOf(1)", x.layerOf(1), 3);
    }

    private static void endedIsNotReversed() {
        CHECK.promise(10, "not reversed if the visit of the target has ended");
        LayeredDrawing x = withNodes(3);
        // 0 visits 2 first, and after it 1, which leads to 2
        connect(x, 0, 2, 0, 1, 1, 2);
        due("reversals()", x.reversals(), 0);
        // the same edge again, whose target was visited on the way of the first one
        connect(x, 1, 2);
        due("reversals()", x.reversals(), 0);
        // 2 leads to 1, which it visits before 0 could
        connect(x, 2, 1);
        due("reversed(2)", x.reversed(2), 1);
        due("reversed(3)", x.reversed(3), 1);
        due("reversed(4)", x.reversed(4), 0);
    }

    private static void nodesInAscendingOrder() {
        CHECK.promise(10, "for each node in ascending order that has not been visited");
        LayeredDrawing x = withNodes(12);
        // 11 to 10 is added first, but 10 is visited first
        connect(x, 11, 10, 10, 11);
        due("reversed(0)", x.reversed(0), 1);
        due("reversed(1)", x.reversed(1), 0);
        // now 11 is reached from 0, before 10
        connect(x, 0, 11);
        due("reversed(0)", x.reversed(0), 0);
        due("reversed(1)", x.reversed(1), 1);
    }

    // ---- layers

    private static void layersWithoutEdges() {
        CHECK.promise(15, "0 without nodes, 1 without edges");
        LayeredDrawing x = new LayeredDrawing();
        due("layers()", x.layers(), 0);
        due("totalLength()", x.totalLength(), 0);
        for (int node = 0; node < 12; node++) {
            x.addNode(1, 0);
            due("layers()", x.layers(), 1);
            due("layerOf(" + node + ")", x.layerOf(node), 0);
        }
        due("totalLength()", x.totalLength(), 0);
    }

    private static void layersOfLeastLengths() {
        CHECK.promise(13, "at least the least length");
        for (int least = 1; least <= 3; least++) {
            LayeredDrawing x = withNodes(2);
            x.addEdge(1, 0, 0, 0, least);
            due("lengthOf(0)", x.lengthOf(0), least);
            due("layerOf(1)", x.layerOf(1), 0);
            due("layerOf(0)", x.layerOf(0), least);
            due("layers()", x.layers(), least + 1);
            due("totalLength()", x.totalLength(), least);
            for (int other = 1; other <= 3; other++) {
                x.addEdge(1, 0, 0, 0, other);
                due("lengthOf(0)", x.lengthOf(0), Math.max(least, other));
                due("lengthOf(1)", x.lengthOf(1), Math.max(least, other));
                x.removeEdge();
            }
        }
    }

    private static void mostLayers() {
        CHECK.promise(15, "34 layers");
        LayeredDrawing x = withNodes(12);
        for (int node = 11; node > 0; node--) {
            x.addEdge(node, node - 1, 0, 0, 3);
        }
        due("layers()", x.layers(), 34);
        due("layerOf(11)", x.layerOf(11), 0);
        due("layerOf(0)", x.layerOf(0), 33);
        due("layOut()", x.layOut(), 34);
        due("vertices(33)", x.vertices(33), 1);
        due("vertices(34)", x.vertices(34), BAD);
        due("vertex(33, 0)", x.vertex(33, 0), 0);
        due("vertex(32, 0)", x.vertex(32, 0), 100 + 40 * 10 + 32);
        due("crossingsBelow(32)", x.crossingsBelow(32), 0);
        due("crossingsBelow(33)", x.crossingsBelow(33), BAD);
        due("sweep(true)", x.sweep(true), 0);
        due("sweep(false)", x.sweep(false), 0);
        due("reduce(6)", x.reduce(6), 0);
        due("align()", x.align(), 1);
        due("spread()", x.spread(), 0);
    }

    private static void longestTotal() {
        CHECK.promise(14, "20 edges, nine of them of the length 33");
        LayeredDrawing x = withNodes(12);
        for (int node = 1; node < 12; node++) {
            x.addEdge(node - 1, node, 0, 0, 3);
        }
        for (int edge = 11; edge < 20; edge++) {
            x.addEdge(0, 11, 0, 0, 1);
            due("lengthOf(" + edge + ")", x.lengthOf(edge), 33);
        }
        due("totalLength()", x.totalLength(), 33 + 9 * 33);
        due("layOut()", x.layOut(), FULL);
    }

    private static void lowLayers() {
        CHECK.promise(12, "of several layerings the one in which each layer is as low as in any");
        // 1 may stand at 1 to 5 between 0 and 2, which is at 6
        LayeredDrawing x = withNodes(6);
        x.addEdge(0, 3, 0, 0, 3);
        x.addEdge(3, 2, 0, 0, 3);
        x.addEdge(0, 1, 0, 0, 1);
        x.addEdge(1, 2, 0, 0, 1);
        due("layerOf(1)", x.layerOf(1), 1);
        // a tree that hangs on nothing begins at 0, and 5 above the 2 alone goes down to it
        x.addEdge(5, 2, 0, 0, 2);
        due("layerOf(5)", x.layerOf(5), 4);
        due("layerOf(4)", x.layerOf(4), 0);
        // as many edges up as down: low again
        x.addEdge(0, 5, 0, 0, 3);
        due("layerOf(5)", x.layerOf(5), 3);
        due("totalLength()", x.totalLength(), 3 + 3 + 1 + 5 + 3 + 3);
    }

    // ---- vertices

    private static void emptyLayout() {
        CHECK.promise(16, "layOut without nodes");
        LayeredDrawing x = new LayeredDrawing();
        due("layOut()", x.layOut(), 0);
        due("crossings()", x.crossings(), 0);
        due("sweep(true)", x.sweep(true), 0);
        due("sweep(false)", x.sweep(false), 0);
        due("siftAll()", x.siftAll(), 0);
        due("reduce(1)", x.reduce(1), 0);
        due("reduce(6)", x.reduce(6), 0);
        due("align()", x.align(), 0);
        due("width()", x.width(), 0);
        due("spread()", x.spread(), 0);
        due("layOut()", x.layOut(), 0);
    }

    private static void noBend() {
        CHECK.promise(19, "an edge of length l has l - 1 bends, between its ends");
        for (int least = 1; least <= 3; least++) {
            LayeredDrawing x = withNodes(2);
            x.addEdge(0, 1, 0, 0, least);
            due("layOut()", x.layOut(), 2 + least - 1);
            for (int layer = 0; layer < 40; layer++) {
                int want = layer > 0 && layer < least ? 0 : BAD;
                due("placeOf(" + (100 + layer) + ")", x.placeOf(100 + layer), want);
            }
            due("placeOf(140)", x.placeOf(140), BAD);
            due("placeOf(141)", x.placeOf(141), BAD);
            due("placeOf(1)", x.placeOf(1), 0);
            due("placeOf(2)", x.placeOf(2), BAD);
        }
    }

    private static void longestEdge() {
        CHECK.promise(16, "60 vertices, 29 of them the bends of one edge");
        LayeredDrawing x = withNodes(11);
        for (int node = 1; node < 11; node++) {
            x.addEdge(node - 1, node, 0, 0, 3);
        }
        connect(x, 0, 10);
        due("lengthOf(10)", x.lengthOf(10), 30);
        due("layOut()", x.layOut(), 60);
        due("placeOf(500)", x.placeOf(500), BAD);
        for (int layer = 1; layer < 30; layer++) {
            due("placeOf(" + (500 + layer) + ")", x.placeOf(500 + layer), 1);
            due("vertex(" + layer + ", 1)", x.vertex(layer, 1), 500 + layer);
            due("left(" + (500 + layer) + ")", x.left(500 + layer), 2);
        }
        due("placeOf(530)", x.placeOf(530), BAD);
        due("straight(10)", x.straight(10), 28);
        due("spread()", x.spread(), 4);
        CHECK.promise(16, "FULL if there would be more than 60");
        x.addNode(1, 0);
        due("layOut() of 61", x.layOut(), FULL);
        due("width()", x.width(), NOT);
        x.removeEdge();
        due("layOut() without the edge", x.layOut(), 32);
    }

    private static void bendsOfTheLastEdge() {
        CHECK.promise(19, "the bend of edge e in layer y is 100 + 40 * e + y");
        LayeredDrawing x = withNodes(2);
        for (int edge = 0; edge < 20; edge++) {
            x.addEdge(0, 1, 0, 0, 2);
        }
        due("layOut()", x.layOut(), 22);
        due("vertices(1)", x.vertices(1), 20);
        for (int edge = 0; edge < 20; edge++) {
            due("vertex(1, " + edge + ")", x.vertex(1, edge), 101 + 40 * edge);
            due("placeOf(" + (101 + 40 * edge) + ")", x.placeOf(101 + 40 * edge), edge);
        }
        due("vertex(1, 20)", x.vertex(1, 20), BAD);
        due("placeOf(901)", x.placeOf(901), BAD);
        due("left(861)", x.left(861), 38);
        due("width()", x.width(), 39);
        due("exchange(1, 18)", x.exchange(1, 18), 0);
        due("vertex(1, 19)", x.vertex(1, 19), 821);
        due("exchange(1, 19)", x.exchange(1, 19), BAD);
        // the ends have the same port: nothing crosses, and each bend may go first
        due("sift(821)", x.sift(821), 0);
    }

    private static void sixtyVertices() {
        CHECK.promise(16, "60 vertices, one less and one more");
        // 47 bends, 14 times 2, 2 from 1 to 2, 3 times 5 from 0 to 2 and 2 from 1 to 3, and those of the last edge
        for (int least = 1; least <= 3; least++) {
            LayeredDrawing x = withNodes(12);
            for (int edge = 0; edge < 14; edge++) {
                x.addEdge(0, 1, 0, 0, 3);
            }
            x.addEdge(1, 2, 0, 0, 3);
            for (int edge = 15; edge < 18; edge++) {
                x.addEdge(0, 2, 0, 0, 1);
            }
            x.addEdge(1, 3, 0, 0, 3);
            x.addEdge(1, 4, 0, 0, least);
            due("edges()", x.edges(), 20);
            due("layOut(), last edge of " + least, x.layOut(), least == 3 ? FULL : 58 + least);
            due("vertices(0)", x.vertices(0), least == 3 ? NOT : 8);
        }
    }

    private static void namesFirst() {
        CHECK.promise(16, "ordered by their names: nodes, then bends by their edges");
        LayeredDrawing x = withNodes(12);
        connect(x, 11, 10, 10, 9);
        x.addEdge(11, 9, 0, 0, 1);
        x.addEdge(0, 9, 0, 0, 2);
        connect(x, 11, 2);
        due("layOut()", x.layOut(), 14);
        row(x, 0, 0, 1, 3, 4, 5, 6, 7, 8, 11);
        row(x, 1, 2, 10, 181, 221);
        row(x, 2, 9);
    }

    private static void groupsClosedAtFirst() {
        CHECK.promise(16, "groups are closed: the other nodes of the group directly behind the first one");
        LayeredDrawing x = new LayeredDrawing();
        for (int node = 0; node < 12; node++) {
            x.addNode(1, node == 0 || node == 11 ? 3 : node == 1 || node == 10 ? 1 : node == 9 ? 2 : 0);
        }
        due("layOut()", x.layOut(), 12);
        row(x, 0, 0, 11, 1, 10, 2, 3, 4, 5, 6, 7, 8, 9);
        // one group alone, and groups of all nodes: nothing to close
        LayeredDrawing y = new LayeredDrawing();
        for (int node = 0; node < 12; node++) {
            y.addNode(1, 2);
        }
        y.layOut();
        row(y, 0, 0, 1, 2, 3, 4, 5, 6, 7, 8, 9, 10, 11);
        for (int node = 0; node < 12; node++) {
            y.setGroup(node, 1 + node % 3);
        }
        y.layOut();
        row(y, 0, 0, 3, 6, 9, 1, 4, 7, 10, 2, 5, 8, 11);
    }

    // ---- crossings

    private static void noCrossings() {
        CHECK.promise(21, "no parts, one part");
        LayeredDrawing x = withNodes(2);
        x.layOut();
        due("crossings()", x.crossings(), 0);
        due("crossingsBelow(0), the last one", x.crossingsBelow(0), BAD);
        connect(x, 0, 1);
        x.layOut();
        due("crossings()", x.crossings(), 0);
        due("crossingsBelow(0)", x.crossingsBelow(0), 0);
        due("crossingsOf(0, 0)", x.crossingsOf(0, 0), BAD);
    }

    /** 20 edges, the spots of their upper ends ascending and those of their lower ends descending. */
    private static LayeredDrawing allCrossed() {
        LayeredDrawing x = withNodes(10);
        for (int edge = 0; edge < 20; edge++) {
            int mirrored = 19 - edge;
            x.addEdge(edge / 4, 5 + mirrored / 4, 2 * (edge % 4), 1 + 2 * (mirrored % 4), 1);
        }
        due("layOut()", x.layOut(), 10);
        return x;
    }

    private static void mostCrossings() {
        CHECK.promise(21, "all pairs of 20 parts");
        LayeredDrawing x = allCrossed();
        due("crossings()", x.crossings(), 190);
        due("crossingsBelow(0)", x.crossingsBelow(0), 190);
        for (int edge = 1; edge < 20; edge++) {
            due("crossingsOf(0, " + edge + ")", x.crossingsOf(0, edge), 1);
            due("crossingsOf(" + edge + ", 0)", x.crossingsOf(edge, 0), 1);
        }
        // the nodes below turn around; the four parts at each node, six pairs, still cross
        due("reduce(6)", x.reduce(6), 5 * 6);
    }

    private static void samePlaceAndPort() {
        CHECK.promise(20, "the place, or with the same place the port, is lower, and the other one higher");
        for (int first = 0; first < 8; first += 7) {
            for (int second = 0; second < 8; second++) {
                LayeredDrawing x = withNodes(2);
                x.addEdge(0, 1, first, 3, 1);
                x.addEdge(0, 1, second, 4, 1);
                x.addEdge(0, 1, second, 3, 1);
                x.layOut();
                due("crossingsOf(0, 1)", x.crossingsOf(0, 1), first > second ? 1 : 0);
                // with the same port at one end they do not cross
                due("crossingsOf(0, 2)", x.crossingsOf(0, 2), 0);
                due("crossingsOf(1, 2)", x.crossingsOf(1, 2), 0);
            }
        }
        // the port 7 of one place is before the port 0 of the next one
        LayeredDrawing y = withNodes(4);
        y.addEdge(0, 2, 7, 7, 1);
        y.addEdge(1, 3, 0, 0, 1);
        y.layOut();
        due("crossings()", y.crossings(), 0);
        due("exchange(0, 0)", y.exchange(0, 0), 1);
        due("exchange(1, 0)", y.exchange(1, 0), 0);
    }

    private static void crossInEachPart() {
        CHECK.promise(22, "how often they cross: once in each of their layers at most");
        LayeredDrawing x = withNodes(4);
        x.addEdge(0, 2, 0, 0, 3);
        x.addEdge(1, 3, 0, 0, 3);
        x.layOut();
        due("crossingsOf(0, 1)", x.crossingsOf(0, 1), 0);
        due("exchange(1, 0)", x.exchange(1, 0), 2);
        due("exchange(3, 0)", x.exchange(3, 0), 3);
        due("crossingsOf(0, 1)", x.crossingsOf(0, 1), 3);
        due("crossingsOf(1, 0)", x.crossingsOf(1, 0), 3);
        for (int layer = 0; layer < 3; layer++) {
            due("crossingsBelow(" + layer + ")", x.crossingsBelow(layer), 1);
        }
        due("crossingsBelow(3)", x.crossingsBelow(3), BAD);
    }

    private static void onlyBetweenTheSameLayers() {
        CHECK.promise(22, "parts between the same two layers");
        // 0 to 1 and 2 to 3 are in other layers, as 2 is pulled down by its second edge
        LayeredDrawing x = withNodes(5);
        connect(x, 0, 1, 1, 3, 2, 3, 1, 4);
        x.layOut();
        row(x, 0, 0);
        row(x, 1, 1, 2);
        row(x, 2, 3, 4);
        due("crossingsOf(0, 2)", x.crossingsOf(0, 2), 0);
        due("crossingsOf(2, 0)", x.crossingsOf(2, 0), 0);
        due("crossingsOf(2, 3)", x.crossingsOf(2, 3), 1);
        due("crossings()", x.crossings(), 1);
    }

    private static void crossingsBelowTheFirstAndTheLastButOne() {
        CHECK.promise(20, "a layer, but not the last one");
        LayeredDrawing x = withNodes(6);
        connect(x, 0, 3, 1, 2, 2, 5, 3, 4);
        x.layOut();
        due("crossingsBelow(0)", x.crossingsBelow(0), 1);
        due("crossingsBelow(1)", x.crossingsBelow(1), 1);
        due("crossingsBelow(2)", x.crossingsBelow(2), BAD);
        due("crossings()", x.crossings(), 2);
    }

    // ---- sweeps

    private static void sweepOfFewLayers() {
        CHECK.promise(23, "a sweep through one layer goes through none");
        LayeredDrawing x = withNodes(3);
        x.layOut();
        due("exchange(0, 0)", x.exchange(0, 0), 0);
        due("sweep(true)", x.sweep(true), 0);
        due("sweep(false)", x.sweep(false), 0);
        row(x, 0, 1, 0, 2);
    }

    private static void firstOrLastLayerStays() {
        CHECK.promise(23, "downwards from 1 on, upwards the other layers than the last one");
        LayeredDrawing x = crossed();
        due("sweep(true)", x.sweep(true), 0);
        row(x, 0, 0, 1);
        row(x, 1, 3, 2);
        LayeredDrawing y = crossed();
        due("sweep(false)", y.sweep(false), 0);
        row(y, 0, 1, 0);
        row(y, 1, 2, 3);
    }

    /** Edges from 0 to a node, one for each port of 0. */
    private static void ports(LayeredDrawing x, int target, int... ports) {
        for (int port : ports) {
            x.addEdge(0, target, port, 0, 1);
        }
    }

    private static void exactFractions() {
        CHECK.promise(23, "divided by the number of parts, as an exact fraction");
        // 12/5 and 7/3: alike without the rest
        LayeredDrawing x = withNodes(3);
        ports(x, 1, 7, 5, 0, 0, 0);
        ports(x, 2, 7, 0, 0);
        x.layOut();
        x.sweep(true);
        row(x, 1, 2, 1);
        // 1/9 and 1/10: alike even in hundredths of 8
        LayeredDrawing y = withNodes(3);
        ports(y, 1, 1, 0, 0, 0, 0, 0, 0, 0, 0);
        ports(y, 2, 1, 0, 0, 0, 0, 0, 0, 0, 0, 0);
        y.layOut();
        y.sweep(true);
        row(y, 1, 2, 1);
        // 70/10 and 63/9 are the same: they stay, in both orders
        LayeredDrawing z = withNodes(3);
        ports(z, 1, 7, 7, 7, 7, 7, 7, 7, 7, 7);
        ports(z, 2, 7, 7, 7, 7, 7, 7, 7, 7, 7, 7);
        z.layOut();
        z.sweep(true);
        row(z, 1, 1, 2);
        z.exchange(1, 0);
        z.sweep(true);
        row(z, 1, 2, 1);
    }

    private static void equalFractions() {
        CHECK.promise(23, "those with the same weight stay in the order that they have");
        // 1/3 and 2/6, which no decimal shows exactly
        LayeredDrawing x = withNodes(3);
        ports(x, 1, 1, 0, 0);
        ports(x, 2, 1, 1, 0, 0, 0, 0);
        x.layOut();
        x.sweep(true);
        row(x, 1, 1, 2);
        x.exchange(1, 0);
        x.sweep(true);
        row(x, 1, 2, 1);
        // upwards: 0, 1 and 2 lead to the same port of 3
        LayeredDrawing y = withNodes(4);
        connect(y, 0, 3, 1, 3, 2, 3);
        y.layOut();
        y.exchange(0, 1);
        y.exchange(0, 0);
        row(y, 0, 2, 0, 1);
        due("sweep(false)", y.sweep(false), 0);
        row(y, 0, 2, 0, 1);
    }

    private static void withoutParts() {
        CHECK.promise(23, "a vertex without such parts gets 8 times its own place");
        for (int port = 0; port < 2; port++) {
            // in layer 1: 1 below 0, 3 below nothing, 5 below the port of 4
            LayeredDrawing x = withNodes(6);
            connect(x, 0, 1, 1, 2, 3, 2);
            x.addEdge(4, 5, port, 0, 1);
            x.layOut();
            row(x, 0, 0, 4);
            row(x, 1, 1, 3, 5);
            x.exchange(1, 0);
            x.exchange(1, 1);
            x.exchange(1, 0);
            row(x, 1, 5, 3, 1);
            x.sweep(true);
            // 5 has 8 or 9, 3 has 8, 1 has 0
            if (port == 0) {
                row(x, 1, 1, 5, 3);
            } else {
                row(x, 1, 1, 3, 5);
            }
        }
        // upwards: 3 and 5 are without parts there, at the places 2 and 1
        LayeredDrawing y = withNodes(4);
        connect(y, 0, 1);
        y.layOut();
        row(y, 0, 0, 2, 3);
        y.exchange(0, 0);
        y.exchange(0, 1);
        row(y, 0, 2, 3, 0);
        // 2 has 0, 3 has 8, 0 has 0 of the place of 1
        y.sweep(false);
        row(y, 0, 2, 0, 3);
    }

    private static void newPlacesCount() {
        CHECK.promise(23, "the places that the layer before has then");
        LayeredDrawing x = withNodes(6);
        connect(x, 0, 3, 1, 2, 2, 4, 3, 5);
        x.layOut();
        // 3 2 in layer 1, and by these places 5 4 in layer 2
        due("sweep(true)", x.sweep(true), 0);
        row(x, 1, 3, 2);
        row(x, 2, 5, 4);
        LayeredDrawing y = withNodes(6);
        connect(y, 0, 2, 1, 3, 2, 5, 3, 4);
        y.layOut();
        due("sweep(false)", y.sweep(false), 0);
        row(y, 1, 3, 2);
        row(y, 0, 1, 0);
    }

    private static void sweepClosesGroups() {
        CHECK.promise(23, "and then the groups are closed");
        LayeredDrawing x = withNodes(6);
        connect(x, 0, 5, 1, 4, 2, 3);
        x.setGroup(3, 1);
        x.setGroup(5, 1);
        x.layOut();
        row(x, 1, 3, 5, 4);
        // by the weights 5 4 3, closed 5 3 4
        due("sweep(true)", x.sweep(true), 1);
        row(x, 1, 5, 3, 4);
        x.setGroup(3, 0);
        x.layOut();
        due("sweep(true)", x.sweep(true), 0);
        row(x, 1, 5, 4, 3);
    }

    // ---- sifting

    private static void siftAlone() {
        CHECK.promise(24, "a vertex alone in its layer");
        LayeredDrawing x = withNodes(2);
        x.addEdge(0, 1, 0, 0, 2);
        x.layOut();
        due("sift(0)", x.sift(0), 0);
        due("sift(101)", x.sift(101), 0);
        due("sift(1)", x.sift(1), 0);
        row(x, 1, 101);
    }

    private static void siftToTheLowestNumber() {
        CHECK.promise(24, "of several the one with the lowest number");
        LayeredDrawing x = withNodes(12);
        x.layOut();
        due("sift(11)", x.sift(11), 0);
        row(x, 0, 11, 0, 1, 2, 3, 4, 5, 6, 7, 8, 9, 10);
        due("sift(11)", x.sift(11), 0);
        due("sift(5)", x.sift(5), 0);
        row(x, 0, 5, 11, 0, 1, 2, 3, 4, 6, 7, 8, 9, 10);
        // to the lowest of the good ones: 3 crosses nothing at the places 1 and 2
        LayeredDrawing y = withNodes(6);
        connect(y, 0, 2, 0, 3, 1, 4);
        y.layOut();
        row(y, 1, 2, 3, 4);
        y.exchange(1, 1);
        due("sift(3)", y.sift(3), 0);
        row(y, 1, 3, 2, 4);
    }

    private static void siftToFewest() {
        CHECK.promise(24, "the one with the fewest crossings of the drawing");
        LayeredDrawing x = withNodes(8);
        connect(x, 0, 4, 1, 5, 2, 6, 3, 7);
        x.layOut();
        for (int from = 4; from < 8; from++) {
            due("sift(" + from + ")", x.sift(from), from - 4);
        }
        // to the last place, and to the first one
        x.exchange(1, 2);
        x.exchange(1, 1);
        due("exchange(1, 0)", x.exchange(1, 0), 3);
        row(x, 1, 7, 4, 5, 6);
        due("sift(7)", x.sift(7), 3);
        row(x, 1, 4, 5, 6, 7);
        x.exchange(1, 0);
        x.exchange(1, 1);
        due("exchange(1, 2)", x.exchange(1, 2), 3);
        due("sift(4)", x.sift(4), 0);
        row(x, 1, 4, 5, 6, 7);
        // above and below count: 201 would cross nothing above at the place 0, but two below
        LayeredDrawing y = withNodes(5);
        connect(y, 0, 1, 1, 2, 0, 3);
        y.addEdge(0, 4, 0, 0, 2);
        y.layOut();
        row(y, 1, 1, 3, 221);
        due("sift(221)", y.sift(221), 1);
    }

    private static void siftWithGroups() {
        CHECK.promise(24, "of all places with which groups stay together");
        LayeredDrawing x = new LayeredDrawing();
        for (int group : new int[] {1, 1, 2, 2, 2, 0}) {
            x.addNode(1, group);
        }
        x.layOut();
        due("sift(1)", x.sift(1), 0);
        row(x, 0, 1, 0, 2, 3, 4, 5);
        due("sift(4)", x.sift(4), 2);
        row(x, 0, 1, 0, 4, 2, 3, 5);
        due("sift(5)", x.sift(5), 0);
        row(x, 0, 5, 1, 0, 4, 2, 3);
        // alone of its group it may go everywhere but into another group
        x.setGroup(0, 3);
        x.layOut();
        due("sift(0)", x.sift(0), 0);
        due("sift(1)", x.sift(1), 0);
        due("sift(5)", x.sift(5), 0);
        row(x, 0, 5, 1, 0, 2, 3, 4);
        // only one place: 2 between 0 and 1 would be best, but they stay together
        LayeredDrawing y = withNodes(6);
        connect(y, 0, 3, 1, 4, 2, 5);
        y.setGroup(3, 2);
        y.setGroup(5, 2);
        y.layOut();
        row(y, 1, 3, 5, 4);
        due("sift(4)", y.sift(4), 0);
        due("sift(3)", y.sift(3), 1);
        row(y, 1, 4, 3, 5);
    }

    private static void siftAllOfNothing() {
        CHECK.promise(25, "layer by layer, in each layer in the order of their names");
        LayeredDrawing x = withNodes(12);
        x.layOut();
        due("siftAll()", x.siftAll(), 0);
        // each one goes to the place 0
        row(x, 0, 11, 10, 9, 8, 7, 6, 5, 4, 3, 2, 1, 0);
        due("siftAll()", x.siftAll(), 0);
        row(x, 0, 11, 10, 9, 8, 7, 6, 5, 4, 3, 2, 1, 0);
        LayeredDrawing one = withNodes(1);
        one.layOut();
        due("siftAll()", one.siftAll(), 0);
        row(one, 0, 0);
    }

    // ---- rounds

    private static void roundsOfNothing() {
        CHECK.promise(26, "reduce of one node");
        LayeredDrawing x = withNodes(1);
        x.layOut();
        due("reduce(1)", x.reduce(1), 0);
        due("reduce(6)", x.reduce(6), 0);
        row(x, 0, 0);
    }

    private static void oneRoundAndSix() {
        CHECK.promise(26, "1 to 6 rounds");
        for (int rounds = 1; rounds <= 6; rounds++) {
            LayeredDrawing x = crossed();
            due("reduce(" + rounds + ")", x.reduce(rounds), 0);
            due("crossings()", x.crossings(), 0);
            row(x, 0, 0, 1);
            row(x, 1, 3, 2);
        }
    }

    private static void noRoundIsBetter() {
        CHECK.promise(26, "of several the earliest one: the order before the first round");
        LayeredDrawing x = withNodes(12);
        x.layOut();
        x.exchange(0, 5);
        for (int rounds = 1; rounds <= 6; rounds++) {
            due("reduce(" + rounds + ")", x.reduce(rounds), 0);
            row(x, 0, 0, 1, 2, 3, 4, 6, 5, 7, 8, 9, 10, 11);
        }
    }

    // ---- exchange

    private static void exchangeFirstAndLast() {
        CHECK.promise(27, "the first and the last two places");
        LayeredDrawing x = withNodes(12);
        x.layOut();
        due("exchange(0, 0)", x.exchange(0, 0), 0);
        due("exchange(0, 10)", x.exchange(0, 10), 0);
        due("exchange(0, 11)", x.exchange(0, 11), BAD);
        row(x, 0, 1, 0, 2, 3, 4, 5, 6, 7, 8, 9, 11, 10);
        LayeredDrawing one = withNodes(2);
        connect(one, 0, 1);
        one.layOut();
        due("exchange(0, 0)", one.exchange(0, 0), BAD);
        due("exchange(1, 0)", one.exchange(1, 0), BAD);
        due("exchange(2, 0)", one.exchange(2, 0), BAD);
    }

    private static void exchangeWholeGroups() {
        CHECK.promise(27, "a group would not stay together");
        LayeredDrawing x = new LayeredDrawing();
        for (int group : new int[] {1, 2, 2, 3, 0}) {
            x.addNode(1, group);
        }
        x.layOut();
        // groups of one may move, but not into another one
        due("exchange(0, 0)", x.exchange(0, 0), BAD);
        due("exchange(0, 1)", x.exchange(0, 1), 0);
        due("exchange(0, 2)", x.exchange(0, 2), BAD);
        due("exchange(0, 3)", x.exchange(0, 3), 0);
        row(x, 0, 0, 2, 1, 4, 3);
        x.setGroup(1, 0);
        x.layOut();
        due("exchange(0, 0)", x.exchange(0, 0), 0);
        due("exchange(0, 1)", x.exchange(0, 1), 0);
        row(x, 0, 1, 2, 0, 3, 4);
    }

    // ---- coordinates

    private static void asFarToTheLeft() {
        CHECK.promise(29, "as far to the left as possible, the first one at 0, with gaps of 1 unit");
        LayeredDrawing x = new LayeredDrawing();
        int left = 0;
        for (int node = 0; node < 12; node++) {
            x.addNode(1 + node % 9, 0);
        }
        x.layOut();
        for (int node = 0; node < 12; node++) {
            due("left(" + node + ")", x.left(node), left);
            left += 1 + node % 9 + 1;
        }
        due("width()", x.width(), left - 1);
        // a bend covers 1 unit
        LayeredDrawing y = withNodes(2);
        y.addEdge(0, 1, 7, 7, 2);
        y.addEdge(0, 1, 7, 7, 2);
        y.layOut();
        lefts(y, 101, 0, 141, 2);
        due("width()", y.width(), 3);
    }

    /** 0 of the width 9 and 1 above 2, which only 1 leads to: it is at 0 and wants to be at 10. */
    private static LayeredDrawing farRight() {
        LayeredDrawing x = new LayeredDrawing();
        x.addNode(9, 0);
        x.addNode(1, 0);
        x.addNode(1, 0);
        connect(x, 1, 2);
        due("layOut()", x.layOut(), 3);
        return x;
    }

    private static void firstLayerStays() {
        CHECK.promise(28, "for each layer from 1 on");
        LayeredDrawing x = farRight();
        x.align();
        lefts(x, 0, 0, 1, 10);
        LayeredDrawing y = withNodes(12);
        y.layOut();
        due("align()", y.align(), 23);
        lefts(y, 0, 0, 11, 22);
    }

    private static void alignOfNothing() {
        CHECK.promise(28, "align without edges, and without nodes");
        LayeredDrawing x = new LayeredDrawing();
        x.layOut();
        due("align()", x.align(), 0);
        LayeredDrawing y = withNodes(1);
        y.layOut();
        due("align()", y.align(), 1);
        lefts(y, 0, 0);
    }

    private static void withoutLimit() {
        CHECK.promise(28, "the last one without limit");
        LayeredDrawing x = farRight();
        due("align()", x.align(), 11);
        lefts(x, 2, 10);
        // the wider it is, the wider the drawing
        LayeredDrawing y = new LayeredDrawing();
        y.addNode(9, 0);
        y.addNode(1, 0);
        y.addNode(9, 0);
        connect(y, 1, 2);
        y.layOut();
        due("align()", y.align(), 19);
        lefts(y, 2, 10);
    }

    private static void upToTheNext() {
        CHECK.promise(28, "as far as the vertex to its right allows");
        // 2 and 3 of the widths 3 and 1 below 1 at 10: 3 goes there, 2 stops at 6 with a gap of 1
        LayeredDrawing x = new LayeredDrawing();
        x.addNode(9, 0);
        x.addNode(1, 0);
        x.addNode(3, 0);
        x.addNode(1, 0);
        connect(x, 1, 2, 1, 3);
        x.layOut();
        lefts(x, 2, 0, 3, 4);
        due("align()", x.align(), 11);
        lefts(x, 3, 10, 2, 6);
        // one that no part leads to stays, and stops the ones to its left: 4 in layer 1 above 5
        LayeredDrawing y = new LayeredDrawing();
        y.addNode(9, 0);
        y.addNode(1, 0);
        for (int node = 2; node < 6; node++) {
            y.addNode(1, 0);
        }
        connect(y, 1, 2, 2, 5, 3, 5, 3, 5);
        y.layOut();
        row(y, 1, 2, 3);
        y.align();
        lefts(y, 3, 2, 2, 0);
    }

    private static void atTheDesiredOne() {
        CHECK.promise(28, "which is there or further to the right already, stays");
        // 2 is at 0 as it wants; 3 is at 4 and wants 0
        LayeredDrawing x = new LayeredDrawing();
        x.addNode(1, 0);
        x.addNode(1, 0);
        x.addNode(3, 0);
        x.addNode(1, 0);
        connect(x, 0, 2, 0, 3);
        x.layOut();
        due("align()", x.align(), 5);
        lefts(x, 2, 0, 3, 4);
        // one unit to go, and none: 3 below 1, which is at 2 and then at 3
        for (int width = 1; width <= 3; width++) {
            LayeredDrawing y = new LayeredDrawing();
            y.addNode(width, 0);
            y.addNode(1, 0);
            y.addNode(1, 0);
            y.addNode(1, 0);
            connect(y, 0, 2, 1, 3);
            y.layOut();
            lefts(y, 1, width + 1, 3, 2);
            y.align();
            lefts(y, 2, 0, 3, width + 1);
        }
    }

    private static void lowerOfTheMiddle() {
        CHECK.promise(28, "the middle one, of an even number the lower one of the two in the middle");
        int[] want = {0, 0, 2, 2, 4, 4, 6, 6, 8, 8, 10};
        for (int count = 1; count <= 11; count++) {
            LayeredDrawing x = withNodes(12);
            for (int upper = count - 1; upper >= 0; upper--) {
                connect(x, upper, 11);
            }
            x.layOut();
            x.align();
            due("left(11) below " + count, x.left(11), want[count - 1]);
        }
        // 20 parts: ten at 0 and ten at 2, and then eleven at 2
        for (int low = 9; low <= 10; low++) {
            LayeredDrawing x = withNodes(3);
            for (int edge = 0; edge < 20; edge++) {
                connect(x, edge < low ? 0 : 1, 2);
            }
            x.layOut();
            x.align();
            due("left(2) with " + low + " of 20 at 0", x.left(2), low == 10 ? 0 : 2);
        }
    }

    private static void alignTwice() {
        CHECK.promise(28, "aligned once more, all are there already");
        LayeredDrawing x = farRight();
        x.addNode(2, 0);
        x.addEdge(1, 3, 0, 0, 3);
        x.addEdge(2, 3, 0, 0, 1);
        x.layOut();
        int width = x.align();
        long sum = x.checksum();
        due("align()", x.align(), width);
        due("checksum()", x.checksum(), sum);
    }

    private static void sameOrderStaysAligned() {
        CHECK.promise(28, "the same order after a call: the coordinates stay");
        LayeredDrawing x = farRight();
        x.align();
        due("sift(2)", x.sift(2), 0);
        due("sweep(true)", x.sweep(true), 0);
        due("reduce(6)", x.reduce(6), 0);
        due("exchange(1, 0)", x.exchange(1, 0), BAD);
        due("keep(0)", x.keep(0), 3);
        due("width()", x.width(), 11);
        lefts(x, 2, 10);
        // sweep upwards: 0 has 0 of its own place, and 1 has 0 of the place of 2
        due("sweep(false)", x.sweep(false), 0);
        lefts(x, 2, 10);
    }

    private static void otherOrderIsPacked() {
        CHECK.promise(28, "another order of some layer: all layers are as far to the left as possible");
        LayeredDrawing x = farRight();
        x.align();
        due("exchange(0, 0)", x.exchange(0, 0), 0);
        lefts(x, 1, 0, 0, 2, 2, 0);
        x.exchange(0, 0);
        x.align();
        lefts(x, 2, 10);
        due("sift(1)", x.sift(1), 0);
        lefts(x, 1, 0, 2, 0);
        x.exchange(0, 0);
        x.align();
        due("siftAll()", x.siftAll(), 0);
        row(x, 0, 1, 0);
        lefts(x, 1, 0, 2, 0);
        x.exchange(0, 0);
        x.align();
        due("layOut()", x.layOut(), 3);
        lefts(x, 0, 0, 1, 10, 2, 0);
    }

    private static void widthOfAll() {
        CHECK.promise(30, "the greatest right coordinate of a vertex");
        LayeredDrawing x = new LayeredDrawing();
        for (int node = 0; node < 12; node++) {
            x.addNode(9, 0);
        }
        x.layOut();
        due("width()", x.width(), 12 * 10 - 1);
        // the widest layer is the middle one
        LayeredDrawing y = withNodes(4);
        connect(y, 0, 1, 0, 2, 1, 3, 2, 3);
        y.layOut();
        due("width()", y.width(), 3);
    }

    private static void spreadOfAllParts() {
        CHECK.promise(31, "the sum over all parts");
        LayeredDrawing x = withNodes(2);
        x.layOut();
        due("spread()", x.spread(), 0);
        for (int edge = 0; edge < 20; edge++) {
            x.addEdge(0, 1, 0, 0, 2);
        }
        x.layOut();
        // the bends are at 0, 2, .. 38, each between two ends at 0
        due("spread()", x.spread(), 2 * 2 * 190);
        // to the right as well as to the left
        due("farRight().spread()", farRight().spread(), 10);
        LayeredDrawing y = new LayeredDrawing();
        y.addNode(1, 0);
        y.addNode(9, 0);
        y.addNode(1, 0);
        connect(y, 0, 1, 0, 2);
        y.layOut();
        due("spread()", y.spread(), 10);
    }

    private static void straightParts() {
        CHECK.promise(32, "how many of its parts are straight");
        LayeredDrawing x = withNodes(3);
        x.addEdge(0, 2, 0, 0, 3);
        x.addEdge(1, 2, 0, 0, 3);
        x.layOut();
        due("straight(0)", x.straight(0), 3);
        due("straight(1)", x.straight(1), 2);
        LayeredDrawing y = farRight();
        due("straight(0)", y.straight(0), 0);
        y.align();
        due("straight(0)", y.straight(0), 1);
    }

    // ---- borders

    private static void borderOfOne() {
        CHECK.promise(33, "the border of one node");
        LayeredDrawing x = new LayeredDrawing();
        x.addNode(9, 0);
        x.addNode(4, 3);
        x.layOut();
        due("border(3, 0)", x.border(3, 0), 10);
        due("border(3, 1)", x.border(3, 1), 14);
        due("border(3, 2)", x.border(3, 2), 0);
        due("border(3, 3)", x.border(3, 3), 0);
        due("border(1, 0)", x.border(1, 0), NONE);
        due("intruders(3)", x.intruders(3), 0);
    }

    private static void borderOfAll() {
        CHECK.promise(33, "from the lowest to the highest layer, over 34 layers");
        LayeredDrawing x = new LayeredDrawing();
        for (int node = 0; node < 12; node++) {
            x.addNode(node == 5 ? 9 : 1, node == 0 || node == 11 ? 1 : 2);
        }
        for (int node = 1; node < 12; node++) {
            x.addEdge(node - 1, node, 0, 0, 3);
        }
        x.layOut();
        due("border(1, 2)", x.border(1, 2), 0);
        due("border(1, 3)", x.border(1, 3), 33);
        due("border(2, 2)", x.border(2, 2), 3);
        due("border(2, 3)", x.border(2, 3), 30);
        due("border(1, 1)", x.border(1, 1), 1);
        due("border(2, 1)", x.border(2, 1), 9);
        // the ten others are between; of the layers 3 to 30 the two are outside
        due("intruders(1)", x.intruders(1), 10);
        due("intruders(2)", x.intruders(2), 0);
    }

    /** 0 (as wide as said) and 1 (width 2, group 1) above 2 (as wide as said) and 3. */
    private static LayeredDrawing beside(int width, int below) {
        LayeredDrawing x = new LayeredDrawing();
        x.addNode(width, 0);
        x.addNode(2, 1);
        x.addNode(below, 0);
        x.addNode(1, 1);
        connect(x, 0, 2, 1, 3);
        due("layOut()", x.layOut(), 4);
        return x;
    }

    private static void touchingIsNoIntruder() {
        CHECK.promise(34, "covers a unit between the left and the right side");
        // above, the group is from 4 to 6; below, 2 is before 3, which belongs to the group
        due("intruders(1), both from 4 on", beside(3, 3).intruders(1), 0);
        due("left(3)", beside(3, 3).left(3), 4);
        due("intruders(1), 2 up to 4 and 3 at 5", beside(3, 4).intruders(1), 0);
        due("intruders(1), 2 up to 5 and 3 at 6", beside(3, 5).intruders(1), 1);
        due("intruders(1), 3 at 3, 0 up to 3", beside(3, 2).intruders(1), 0);
        due("intruders(1), 3 at 2, 0 up to 3", beside(3, 1).intruders(1), 1);
        // to the right: 0 of the group 1 up to 2; 2 from 2 on, then from 1 on
        for (int width = 1; width <= 2; width++) {
            LayeredDrawing x = new LayeredDrawing();
            x.addNode(3, 1);
            x.addNode(width, 1);
            x.addNode(1, 0);
            connect(x, 0, 1, 0, 2);
            x.layOut();
            due("left(2)", x.left(2), width + 1);
            due("intruders(1)", x.intruders(1), width == 1 ? 1 : 0);
        }
        // one that covers the whole border, and one of another group
        LayeredDrawing y = new LayeredDrawing();
        y.addNode(1, 1);
        y.addNode(9, 2);
        y.addNode(1, 1);
        connect(y, 0, 1, 1, 2);
        y.layOut();
        due("intruders(1)", y.intruders(1), 1);
        due("intruders(2)", y.intruders(2), 0);
    }

    private static void layersOfTheBorder() {
        CHECK.promise(34, "whose layer is in the border, its first and last one too");
        // a column of five nodes, where the group is some of them
        for (int first = 0; first < 5; first++) {
            for (int last = first; last < 5; last++) {
                LayeredDrawing x = withNodes(5);
                connect(x, 0, 1, 1, 2, 2, 3, 3, 4);
                x.setGroup(first, 3);
                x.setGroup(last, 3);
                x.layOut();
                due("intruders(3) from " + first + " to " + last, x.intruders(3), Math.max(0, last - first - 1));
            }
        }
        // beside 0 in the first layer and 2 in the last one, below and above wide members
        LayeredDrawing y = new LayeredDrawing();
        y.addNode(1, 0);
        y.addNode(9, 1);
        y.addNode(9, 1);
        y.addNode(1, 0);
        connect(y, 1, 2, 1, 3);
        y.layOut();
        lefts(y, 0, 0, 1, 2, 2, 0, 3, 10);
        // the border is from 0 to 11
        due("intruders(1)", y.intruders(1), 2);
    }

    // ---- texts

    private static void allSigns() {
        CHECK.promise(35, "codes from 32 to 126");
        LayeredDrawing x = new LayeredDrawing();
        for (int code = 32; code <= 126; code++) {
            due("append(" + code + ")", x.append(code), code - 31);
        }
        due("clearText()", x.clearText(), 95);
    }

    private static void aHundredCharacters() {
        CHECK.promise(35, "at most 100 characters");
        LayeredDrawing x = new LayeredDrawing();
        for (int length = 1; length <= 100; length++) {
            due("append(126)", x.append(126), length);
        }
        due("append(126)", x.append(126), FULL);
        due("append(126)", x.append(126), FULL);
        CHECK.promise(36, "the length that it had");
        due("clearText()", x.clearText(), 100);
        due("clearText()", x.clearText(), 0);
        due("append(32)", x.append(32), 1);
        due("clearText()", x.clearText(), 1);
    }

    private static void emptyTextAgain() {
        CHECK.promise(36, "clearText of an empty text");
        LayeredDrawing x = new LayeredDrawing();
        due("clearText()", x.clearText(), 0);
        due("clearText()", x.clearText(), 0);
        due("faultPosition()", x.faultPosition(), NONE);
        // the longer text that was there does not come back
        x = withNodes(3);
        write(x, "0>1;1>2;?");
        write(x, "0>1;");
        due("faultPosition()", x.faultPosition(), NONE);
        due("read()", x.read(), 1);
        write(x, "0>1");
        due("faultPosition()", x.faultPosition(), 3);
        due("read()", x.read(), NOT);
    }

    private static void readNothing() {
        CHECK.promise(38, "read of an empty text");
        LayeredDrawing x = new LayeredDrawing();
        due("read()", x.read(), 0);
        due("edges()", x.edges(), 0);
        LayeredDrawing y = withNodes(2);
        for (int edge = 0; edge < 20; edge++) {
            connect(y, 0, 1);
        }
        due("read() with 20 edges", y.read(), 0);
        due("edges()", y.edges(), 20);
    }

    private static void readTwenty() {
        CHECK.promise(38, "FULL if there would be more than 20 edges");
        for (int before = 0; before <= 20; before++) {
            LayeredDrawing x = withNodes(2);
            for (int edge = 0; edge < before; edge++) {
                connect(x, 1, 0);
            }
            write(x, "0>1;".repeat(21 - before));
            due("read() of one too many, after " + before, x.read(), FULL);
            due("edges()", x.edges(), before);
            write(x, "0>1;".repeat(20 - before));
            due("read() of as many as fit, after " + before, x.read(), 20 - before);
            due("edges()", x.edges(), 20);
            due("the text stays", x.clearText(), 4 * (20 - before));
            due("edge(19, 0)", x.edge(19, 0), before == 20 ? 1 : 0);
        }
    }

    private static void readDefaults() {
        CHECK.promise(38, "the port 0 and the least length 1 without them");
        LayeredDrawing x = withNodes(12);
        String[] texts = {"0>11;", "10.7>0;", "11>1.7;", "2>3=3;", "4.1>5=2;", "6>7.3=1;", "8.0>9.0=1;", "1.5>10.6=3;"};
        int[][] want = {{0, 11, 0, 0, 1}, {10, 0, 7, 0, 1}, {11, 1, 0, 7, 1}, {2, 3, 0, 0, 3}, {4, 5, 1, 0, 2},
            {6, 7, 0, 3, 1}, {8, 9, 0, 0, 1}, {1, 10, 5, 6, 3}};
        write(x, String.join("", texts));
        due("read()", x.read(), texts.length);
        for (int edge = 0; edge < texts.length; edge++) {
            for (int what = 0; what < 5; what++) {
                due("edge(" + edge + ", " + what + ")", x.edge(edge, what), want[edge][what]);
            }
        }
    }

    private static void readAHundredCharacters() {
        CHECK.promise(38, "read of 100 characters");
        LayeredDrawing x = withNodes(12);
        write(x, "10.1>11.2=3;".repeat(8) + "0>1;");
        due("read()", x.read(), 9);
        due("read() again", x.read(), 9);
        due("read() once more", x.read(), FULL);
        due("edges()", x.edges(), 18);
        due("edge(7, 1)", x.edge(7, 1), 11);
        due("edge(8, 1)", x.edge(8, 1), 1);
        due("edge(17, 4)", x.edge(17, 4), 1);
        write(x, "0>1;".repeat(25));
        x.clear();
        x.addNode(1, 0);
        x.addNode(1, 0);
        due("read() of 25 edges", x.read(), FULL);
        due("edges()", x.edges(), 0);
    }

    // ---- slots

    private static void keepNothing() {
        CHECK.promise(39, "an empty graph is kept, and is not nothing");
        for (int slot = 0; slot < 2; slot++) {
            LayeredDrawing x = new LayeredDrawing();
            due("restore(" + slot + ")", x.restore(slot), NOT);
            due("keep(" + slot + ")", x.keep(slot), 0);
            due("restore(" + slot + ")", x.restore(slot), 0);
            due("restore(" + (1 - slot) + ")", x.restore(1 - slot), NOT);
            x.addNode(1, 0);
            due("restore(" + slot + ")", x.restore(slot), 0);
            due("nodes()", x.nodes(), 0);
            due("crossings()", x.crossings(), NOT);
            x.layOut();
            due("keep(" + slot + ")", x.keep(slot), 0);
            x.addNode(1, 0);
            due("restore(" + slot + ")", x.restore(slot), 0);
            due("crossings(), laid out again", x.crossings(), 0);
        }
    }

    private static void keepFull() {
        CHECK.promise(40, "12 nodes, 20 edges and 60 vertices are restored");
        LayeredDrawing x = withNodes(12);
        x.addEdge(0, 1, 7, 0, 2);
        for (int node = 2; node < 11; node++) {
            x.addEdge(node - 1, node, node % 8, 7 - node % 8, 3);
        }
        x.addEdge(10, 0, 1, 2, 1);
        x.addEdge(0, 1, 6, 1, 1);
        for (int edge = 12; edge < 20; edge++) {
            x.addEdge(0, 11, edge % 8, 0, 1);
        }
        // a chain of 29 layers, 10 to 0 reversed along it, 2 from 0 to 1, and 8 to 11
        due("totalLength()", x.totalLength(), 29 + 29 + 2 + 8);
        due("layOut()", x.layOut(), 60);
        due("setGroup(11, 3)", x.setGroup(11, 3), 0);
        due("layOut()", x.layOut(), 60);
        x.exchange(1, 0);
        x.exchange(28, 0);
        x.align();
        long sum = x.checksum();
        due("keep(1)", x.keep(1), 12);
        due("clear()", x.clear(), 12);
        due("restore(1)", x.restore(1), 12);
        due("checksum()", x.checksum(), sum);
        due("edges()", x.edges(), 20);
        due("placeOf(528)", x.placeOf(528), 0);
        due("reversed(10)", x.reversed(10), 1);
        due("edge(19, 2)", x.edge(19, 2), 3);
        due("setGroup(11, 0)", x.setGroup(11, 0), 3);
    }

    private static void slotsAreApart() {
        CHECK.promise(39, "in place of what the slot keeps");
        LayeredDrawing x = withNodes(1);
        due("keep(0)", x.keep(0), 1);
        x.addNode(1, 0);
        due("keep(1)", x.keep(1), 2);
        x.addNode(1, 0);
        due("restore(0)", x.restore(0), 1);
        due("restore(1)", x.restore(1), 2);
        due("keep(0)", x.keep(0), 2);
        x.clear();
        due("restore(0)", x.restore(0), 2);
        due("keep(1), now as slot 0", x.keep(1), 2);
        x.addNode(1, 0);
        due("keep(0)", x.keep(0), 3);
        due("restore(1)", x.restore(1), 2);
        due("restore(0)", x.restore(0), 3);
        CHECK.promise(40, "the slot keeps it");
        due("restore(0)", x.restore(0), 3);
        x.clear();
        due("restore(0)", x.restore(0), 3);
    }

    private static void keptWithoutLayout() {
        CHECK.promise(40, "everything as it was kept: also that it was not laid out");
        LayeredDrawing x = withNodes(2);
        x.keep(0);
        x.layOut();
        due("restore(0)", x.restore(0), 2);
        due("crossings()", x.crossings(), NOT);
        x.layOut();
        x.exchange(0, 0);
        x.keep(0);
        x.setGroup(0, 1);
        due("restore(0)", x.restore(0), 2);
        row(x, 0, 1, 0);
        due("border(1, 0)", x.border(1, 0), NONE);
        CHECK.promise(39, "keep in place of a layout");
        x.setGroup(0, 0);
        x.keep(0);
        x.layOut();
        x.restore(0);
        due("crossings()", x.crossings(), NOT);
    }

    private static void restoreIsNotPacked() {
        CHECK.promise(28, "another order after a call other than restore");
        LayeredDrawing x = farRight();
        x.align();
        x.keep(1);
        x.exchange(0, 0);
        lefts(x, 2, 0);
        due("restore(1)", x.restore(1), 3);
        row(x, 0, 0, 1);
        lefts(x, 0, 0, 1, 10, 2, 10);
        due("width()", x.width(), 11);
    }

    private static void textStays() {
        CHECK.promise(40, "everything except the text and the slots");
        LayeredDrawing x = withNodes(2);
        write(x, "0>1;");
        x.keep(0);
        x.append('1');
        x.keep(1);
        x.restore(0);
        due("append(62)", x.append('>'), 6);
        due("restore(1)", x.restore(1), 2);
        due("faultPosition()", x.faultPosition(), 6);
        due("clearText()", x.clearText(), 6);
        due("restore(0)", x.restore(0), 2);
        due("clearText()", x.clearText(), 0);
    }

    // ---- the checksum

    /** As the document says it, but as exact numbers, of what the other calls answer. */
    private static BigInteger exactChecksum(LayeredDrawing x) {
        List<Integer> values = new ArrayList<>(List.of(x.nodes(), x.edges()));
        for (int edge = 0; edge < x.edges(); edge++) {
            values.add(x.reversed(edge));
            values.add(x.lengthOf(edge));
        }
        for (int node = 0; node < x.nodes(); node++) {
            values.add(x.layerOf(node));
        }
        values.add(x.layers());
        values.add(x.totalLength());
        if (x.crossings() != NOT) {
            values.addAll(List.of(x.crossings(), x.width(), x.spread()));
            for (int layer = 0; layer < x.layers(); layer++) {
                for (int place = 0; place < x.vertices(layer); place++) {
                    values.add(x.vertex(layer, place));
                    values.add(x.left(x.vertex(layer, place)));
                }
            }
        }
        BigInteger h = BigInteger.valueOf(53);
        for (int value : values) {
            h = h.multiply(BigInteger.valueOf(31)).add(BigInteger.valueOf(value));
        }
        return h;
    }

    private static boolean isLong(BigInteger number) {
        return number.bitLength() < 64;
    }

    private static void checksumOfNothing() {
        CHECK.promise(41, "the checksum of an empty graph");
        LayeredDrawing x = new LayeredDrawing();
        due("checksum()", x.checksum(), 48946613);
        x.layOut();
        due("checksum(), laid out", x.checksum(), 48946613L * 31 * 31 * 31);
        x.clear();
        due("checksum()", x.checksum(), 48946613);
    }

    private static void checksumAtTheOverflow() {
        CHECK.promise(41, "as longs, with overflow");
        // h grows by 31 with each node; with 8 nodes it is more than a long for the first time
        for (int nodes = 0; nodes <= 12; nodes++) {
            LayeredDrawing x = withNodes(nodes);
            BigInteger exact = exactChecksum(x);
            CHECK.holds(nodes + " nodes and the longs", isLong(exact) == (nodes < 8));
            due("checksum() of " + nodes + " nodes", x.checksum(), exact.longValue());
        }
        // 41949395355964376012 less 2 to the 65th
        due("checksum() of 8 nodes", withNodes(8).checksum(), 5055907208545272780L);
    }

    private static void checksumFarBeyond() {
        CHECK.promise(41, "the checksum of a full drawing");
        LayeredDrawing x = allCrossed();
        BigInteger exact = exactChecksum(x);
        CHECK.holds("far more than a long", exact.bitLength() > 300);
        due("checksum()", x.checksum(), exact.longValue());
        // negative ones too
        LayeredDrawing y = new LayeredDrawing();
        int below = 0;
        for (int node = 0; node < 12; node++) {
            y.addNode(9 - node % 3, node % 4);
            if (node > 0) {
                y.addEdge(node - 1, node, node % 8, 0, 1 + node % 3);
            }
            y.layOut();
            y.align();
            due("checksum()", y.checksum(), exactOfShort(y));
            below += y.checksum() < 0 ? 1 : 0;
        }
        CHECK.holds("some are negative: " + below, below > 0);
    }

    /** The exact one asks too much for the 512 calls of a drawing: a copy answers. */
    private static long exactOfShort(LayeredDrawing y) {
        LayeredDrawing copy = new LayeredDrawing();
        for (int node = 0; node < y.nodes(); node++) {
            copy.addNode(9 - node % 3, node % 4);
            if (node > 0) {
                copy.addEdge(node - 1, node, node % 8, 0, 1 + node % 3);
            }
        }
        copy.layOut();
        copy.align();
        return exactChecksum(copy).longValue();
    }

    // ---- the last call

    private static void theLastCall() {
        CHECK.promise(0, "at most 512 calls: the last one is still answered");
        LayeredDrawing x = allCrossed();
        LayeredDrawing y = allCrossed();
        int calls = 10 + 20 + 1;
        for (int call = calls; call < MAX_CALLS - 2; call++) {
            boolean down = call % 2 == 0;
            switch (call % 5) {
                case 0 -> x.sweep(down);
                case 1 -> x.exchange(call % 2, call % 4);
                case 2 -> x.reduce(6);
                case 3 -> x.keep(call % 2);
                default -> x.siftAll();
            }
        }
        x.layOut();
        due("checksum()", x.checksum(), y.checksum());
        LayeredDrawing z = new LayeredDrawing();
        int made = 0;
        while (made < MAX_CALLS - 2) {
            made += z.append(48 + made % 10) == FULL && z.clearText() == 100 ? 2 : 1;
        }
        // 5 times 102 calls: 100 signs, one more and clearText()
        due("calls", made, 510);
        due("append(126)", z.append(126), 1);
        due("checksum()", z.checksum(), 48946613);
    }
}
