import java.util.Arrays;

/** A workbench for layered drawings of directed graphs. */
public final class LayeredDrawing {
    /** An argument is out of its range, or names something that does not exist. */
    public static final int BAD_VALUE = -1;
    /** There is no room. */
    public static final int FULL = -2;
    /** The call is not possible now. */
    public static final int NOT_POSSIBLE = -3;
    /** There is no such thing; not an error. */
    public static final int NONE = -4;

    private static final int MAX_NODES = 12;
    private static final int MAX_EDGES = 20;
    private static final int MAX_VERTICES = 60;
    /** Eleven edges of the least length 3 in a row, and the layer in which the first one begins. */
    private static final int MAX_LAYERS = 34;
    private static final int MAX_TEXT = 100;
    private static final int MAX_WIDTH = 9;
    private static final int MAX_GROUP = 3;
    private static final int MAX_LEAST = 3;
    private static final int MAX_ROUNDS = 6;
    private static final int PORTS = 8;
    private static final int SLOTS = 2;
    private static final int FIRST_BEND_NAME = 100;
    private static final int BEND_NAMES_OF_AN_EDGE = 40;
    /** More than any coordinate, flow or number of crossings. */
    private static final int ENDLESS = 1 << 30;

    private final Graph graph;
    private final Layering layering;
    private final Order order;
    private final Coordinates coordinates;
    private final Text text;
    private final Slot[] slots;
    private boolean laidOut;

    public LayeredDrawing() {
        graph = new Graph();
        layering = new Layering(graph);
        order = new Order(graph, layering);
        coordinates = new Coordinates(graph, layering, order);
        text = new Text();
        slots = new Slot[SLOTS];
        for (int slot = 0; slot < SLOTS; slot++) {
            slots[slot] = new Slot();
        }
        laidOut = false;
    }

    // ---- the graph

    public int clear() {
        int before = graph.nodeCount;
        graph.removeAll();
        graphChanged();
        return before;
    }

    public int addNode(int width, int group) {
        if (width < 1 || width > MAX_WIDTH || group < 0 || group > MAX_GROUP) {
            return BAD_VALUE;
        }
        if (graph.nodeCount >= MAX_NODES) {
            return FULL;
        }
        int node = graph.putNode(width, group);
        graphChanged();
        return node;
    }

    public int addEdge(int source, int target, int sourcePort, int targetPort, int least) {
        if (!isNode(source) || !isNode(target) || source == target) {
            return BAD_VALUE;
        }
        if (!isPort(sourcePort) || !isPort(targetPort) || least < 1 || least > MAX_LEAST) {
            return BAD_VALUE;
        }
        if (graph.edgeCount >= MAX_EDGES) {
            return FULL;
        }
        int edge = graph.putEdge(source, target, sourcePort, targetPort, least);
        graphChanged();
        return edge;
    }

    public int removeEdge() {
        if (graph.edgeCount < 1) {
            return NOT_POSSIBLE;
        }
        graph.edgeCount--;
        graphChanged();
        return graph.edgeCount;
    }

    public int setGroup(int node, int group) {
        if (!isNode(node) || group < 0 || group > MAX_GROUP) {
            return BAD_VALUE;
        }
        int before = graph.groupOf[node];
        graph.groupOf[node] = group;
        graphChanged();
        return before;
    }

    public int nodes() {
        return graph.nodeCount;
    }

    public int edges() {
        return graph.edgeCount;
    }

    public int edge(int edge, int what) {
        if (!isEdge(edge)) {
            return BAD_VALUE;
        }
        switch (what) {
            case 0:
                return graph.source[edge];
            case 1:
                return graph.target[edge];
            case 2:
                return graph.sourcePort[edge];
            case 3:
                return graph.targetPort[edge];
            case 4:
                return graph.least[edge];
            default:
                return BAD_VALUE;
        }
    }

    // ---- directions and layers

    public int reversed(int edge) {
        if (!isEdge(edge)) {
            return BAD_VALUE;
        }
        return layering.turned[edge] ? 1 : 0;
    }

    public int reversals() {
        int count = 0;
        for (int edge = 0; edge < graph.edgeCount; edge++) {
            if (layering.turned[edge]) {
                count++;
            }
        }
        return count;
    }

    public int layerOf(int node) {
        if (!isNode(node)) {
            return BAD_VALUE;
        }
        return layering.layer[node];
    }

    public int lengthOf(int edge) {
        if (!isEdge(edge)) {
            return BAD_VALUE;
        }
        return layering.span(edge);
    }

    public int totalLength() {
        return layering.spanOfAll();
    }

    public int layers() {
        return layering.layerCount;
    }

    // ---- order

    public int layOut() {
        int count = graph.nodeCount + layering.spanOfAll() - graph.edgeCount;
        if (count > MAX_VERTICES) {
            return FULL;
        }
        order.build();
        coordinates.pack();
        laidOut = true;
        return order.vertexCount;
    }

    public int vertices(int layer) {
        if (!laidOut) {
            return NOT_POSSIBLE;
        }
        if (!isLayer(layer)) {
            return BAD_VALUE;
        }
        return order.sizeOf(layer);
    }

    public int vertex(int layer, int place) {
        if (!laidOut) {
            return NOT_POSSIBLE;
        }
        if (!isLayer(layer) || place < 0 || place >= order.sizeOf(layer)) {
            return BAD_VALUE;
        }
        return order.nameOf[order.at(layer, place)];
    }

    public int placeOf(int vertex) {
        if (!laidOut) {
            return NOT_POSSIBLE;
        }
        int found = order.named(vertex);
        if (found < 0) {
            return BAD_VALUE;
        }
        return order.place[found];
    }

    public int crossingsBelow(int layer) {
        if (!laidOut) {
            return NOT_POSSIBLE;
        }
        if (!isLayer(layer) || layer == layering.layerCount - 1) {
            return BAD_VALUE;
        }
        return order.countBelow(layer);
    }

    public int crossings() {
        if (!laidOut) {
            return NOT_POSSIBLE;
        }
        return order.countAll();
    }

    public int crossingsOf(int edge, int other) {
        if (!laidOut) {
            return NOT_POSSIBLE;
        }
        if (!isEdge(edge) || !isEdge(other) || edge == other) {
            return BAD_VALUE;
        }
        return order.countBetween(edge, other);
    }

    public int sweep(boolean down) {
        if (!laidOut) {
            return NOT_POSSIBLE;
        }
        order.remember();
        order.sweepThrough(down);
        packIfReordered();
        return order.countAll();
    }

    public int sift(int vertex) {
        if (!laidOut) {
            return NOT_POSSIBLE;
        }
        int found = order.named(vertex);
        if (found < 0) {
            return BAD_VALUE;
        }
        order.remember();
        order.siftVertex(found);
        packIfReordered();
        return order.place[found];
    }

    public int siftAll() {
        if (!laidOut) {
            return NOT_POSSIBLE;
        }
        order.remember();
        order.siftEveryVertex();
        packIfReordered();
        return order.countAll();
    }

    public int reduce(int rounds) {
        if (!laidOut) {
            return NOT_POSSIBLE;
        }
        if (rounds < 1 || rounds > MAX_ROUNDS) {
            return BAD_VALUE;
        }
        order.remember();
        int count = order.improve(rounds);
        packIfReordered();
        return count;
    }

    public int exchange(int layer, int place) {
        if (!laidOut) {
            return NOT_POSSIBLE;
        }
        if (!isLayer(layer) || place < 0 || place >= order.sizeOf(layer) - 1) {
            return BAD_VALUE;
        }
        order.swap(layer, place);
        if (!order.groupsTogether(layer)) {
            order.swap(layer, place);
            return BAD_VALUE;
        }
        coordinates.pack();
        return order.countAll();
    }

    // ---- coordinates

    public int align() {
        if (!laidOut) {
            return NOT_POSSIBLE;
        }
        coordinates.alignLayers();
        return coordinates.greatestRight();
    }

    public int left(int vertex) {
        if (!laidOut) {
            return NOT_POSSIBLE;
        }
        int found = order.named(vertex);
        if (found < 0) {
            return BAD_VALUE;
        }
        return coordinates.leftOf[found];
    }

    public int width() {
        if (!laidOut) {
            return NOT_POSSIBLE;
        }
        return coordinates.greatestRight();
    }

    public int spread() {
        if (!laidOut) {
            return NOT_POSSIBLE;
        }
        return coordinates.sumOfShifts();
    }

    public int straight(int edge) {
        if (!laidOut) {
            return NOT_POSSIBLE;
        }
        if (!isEdge(edge)) {
            return BAD_VALUE;
        }
        return coordinates.straightParts(edge);
    }

    public int border(int group, int side) {
        if (!laidOut) {
            return NOT_POSSIBLE;
        }
        if (!isGroup(group) || side < 0 || side > 3) {
            return BAD_VALUE;
        }
        if (!graph.hasGroup(group)) {
            return NONE;
        }
        return coordinates.sideOf(group, side);
    }

    public int intruders(int group) {
        if (!laidOut) {
            return NOT_POSSIBLE;
        }
        if (!isGroup(group)) {
            return BAD_VALUE;
        }
        if (!graph.hasGroup(group)) {
            return NONE;
        }
        return coordinates.countIntruders(group);
    }

    // ---- texts

    public int append(int character) {
        if (character < 32 || character > 126) {
            return BAD_VALUE;
        }
        if (text.length >= MAX_TEXT) {
            return FULL;
        }
        text.put((char) character);
        return text.length;
    }

    public int clearText() {
        int before = text.length;
        text.length = 0;
        return before;
    }

    public int faultPosition() {
        return text.findFault(graph.nodeCount);
    }

    public int read() {
        if (text.findFault(graph.nodeCount) != NONE) {
            return NOT_POSSIBLE;
        }
        int count = text.edgesFound;
        if (graph.edgeCount + count > MAX_EDGES) {
            return FULL;
        }
        text.position = 0;
        for (int i = 0; i < count; i++) {
            if (text.readEdge(graph.nodeCount)) {
                graph.putEdge(text.source, text.target, text.sourcePort, text.targetPort, text.least);
            }
        }
        graphChanged();
        return count;
    }

    // ---- slots, checksum

    public int keep(int slot) {
        Slot kept = slotNumbered(slot);
        if (kept == null) {
            return BAD_VALUE;
        }
        kept.graph.copyFrom(graph);
        kept.laidOut = laidOut;
        System.arraycopy(order.sequence, 0, kept.order, 0, MAX_VERTICES);
        System.arraycopy(coordinates.leftOf, 0, kept.leftOf, 0, MAX_VERTICES);
        kept.filled = true;
        return graph.nodeCount;
    }

    public int restore(int slot) {
        Slot kept = slotNumbered(slot);
        if (kept == null) {
            return BAD_VALUE;
        }
        if (!kept.filled) {
            return NOT_POSSIBLE;
        }
        graph.copyFrom(kept.graph);
        graphChanged();
        if (kept.laidOut) {
            order.build();
            order.takeOrder(kept.order);
            System.arraycopy(kept.leftOf, 0, coordinates.leftOf, 0, MAX_VERTICES);
            laidOut = true;
        }
        return graph.nodeCount;
    }

    public long checksum() {
        long h = 53;
        h = 31 * h + graph.nodeCount;
        h = 31 * h + graph.edgeCount;
        for (int edge = 0; edge < graph.edgeCount; edge++) {
            h = 31 * h + (layering.turned[edge] ? 1 : 0);
            h = 31 * h + layering.span(edge);
        }
        for (int node = 0; node < graph.nodeCount; node++) {
            h = 31 * h + layering.layer[node];
        }
        h = 31 * h + layering.layerCount;
        h = 31 * h + layering.spanOfAll();
        return laidOut ? withDrawing(h) : h;
    }

    // ---- helpers

    private long withDrawing(long start) {
        long h = start;
        h = 31 * h + order.countAll();
        h = 31 * h + coordinates.greatestRight();
        h = 31 * h + coordinates.sumOfShifts();
        for (int i = 0; i < order.vertexCount; i++) {
            int vertex = order.sequence[i];
            h = 31 * h + order.nameOf[vertex];
            h = 31 * h + coordinates.leftOf[vertex];
        }
        return h;
    }

    private void graphChanged() {
        laidOut = false;
        layering.compute();
    }

    private void packIfReordered() {
        if (order.isReordered()) {
            coordinates.pack();
        }
    }

    private boolean isNode(int node) {
        return node >= 0 && node < graph.nodeCount;
    }

    private boolean isEdge(int edge) {
        return edge >= 0 && edge < graph.edgeCount;
    }

    private boolean isLayer(int layer) {
        return layer >= 0 && layer < layering.layerCount;
    }

    private static boolean isPort(int port) {
        return port >= 0 && port < PORTS;
    }

    private static boolean isGroup(int group) {
        return group >= 1 && group <= MAX_GROUP;
    }

    private Slot slotNumbered(int slot) {
        return slot >= 0 && slot < SLOTS ? slots[slot] : null;
    }

    /** The nodes and edges as they were added. */
    private static final class Graph {
        int nodeCount = 0;
        int edgeCount = 0;
        final int[] widthOf = new int[MAX_NODES];
        final int[] groupOf = new int[MAX_NODES];
        final int[] source = new int[MAX_EDGES];
        final int[] target = new int[MAX_EDGES];
        final int[] sourcePort = new int[MAX_EDGES];
        final int[] targetPort = new int[MAX_EDGES];
        final int[] least = new int[MAX_EDGES];

        void removeAll() {
            nodeCount = 0;
            edgeCount = 0;
        }

        int putNode(int nodeWidth, int nodeGroup) {
            if (nodeCount >= MAX_NODES) {
                return FULL;
            }
            widthOf[nodeCount] = nodeWidth;
            groupOf[nodeCount] = nodeGroup;
            nodeCount++;
            return nodeCount - 1;
        }

        int putEdge(int from, int to, int fromPort, int toPort, int leastLength) {
            if (edgeCount >= MAX_EDGES) {
                return FULL;
            }
            source[edgeCount] = from;
            target[edgeCount] = to;
            sourcePort[edgeCount] = fromPort;
            targetPort[edgeCount] = toPort;
            least[edgeCount] = leastLength;
            edgeCount++;
            return edgeCount - 1;
        }

        boolean hasGroup(int group) {
            for (int node = 0; node < nodeCount; node++) {
                if (groupOf[node] == group) {
                    return true;
                }
            }
            return false;
        }

        void copyFrom(Graph other) {
            nodeCount = other.nodeCount;
            edgeCount = other.edgeCount;
            System.arraycopy(other.widthOf, 0, widthOf, 0, MAX_NODES);
            System.arraycopy(other.groupOf, 0, groupOf, 0, MAX_NODES);
            System.arraycopy(other.source, 0, source, 0, MAX_EDGES);
            System.arraycopy(other.target, 0, target, 0, MAX_EDGES);
            System.arraycopy(other.sourcePort, 0, sourcePort, 0, MAX_EDGES);
            System.arraycopy(other.targetPort, 0, targetPort, 0, MAX_EDGES);
            System.arraycopy(other.least, 0, least, 0, MAX_EDGES);
        }
    }

    /** The directions of the edges and the layers of the nodes, which follow from the graph alone. */
    private static final class Layering {
        private static final int UNSEEN = 0;
        private static final int BEGUN = 1;
        private static final int ENDED = 2;
        /** Each turn of the search gains a unit of the total length, which is at most 20 times 33. */
        private static final int MAX_TURNS = 10000;

        final Graph graph;
        int layerCount = 0;
        final boolean[] turned = new boolean[MAX_EDGES];
        final int[] upper = new int[MAX_EDGES];
        final int[] lower = new int[MAX_EDGES];
        final int[] layer = new int[MAX_NODES];
        /** The layers of the upper and of the lower end of each edge. */
        final int[] top = new int[MAX_EDGES];
        final int[] bottom = new int[MAX_EDGES];
        private final int[] visit = new int[MAX_NODES];
        private final int[] flow = new int[MAX_EDGES];
        private final int[] pushedBy = new int[MAX_NODES];

        Layering(Graph graph) {
            this.graph = graph;
        }

        void compute() {
            findDirections();
            findLayers();
            layerCount = 0;
            for (int node = 0; node < graph.nodeCount; node++) {
                layerCount = Math.max(layerCount, layer[node] + 1);
            }
            for (int edge = 0; edge < graph.edgeCount; edge++) {
                top[edge] = layer[upper[edge]];
                bottom[edge] = layer[lower[edge]];
            }
        }

        int span(int edge) {
            return bottom[edge] - top[edge];
        }

        int spanOfAll() {
            int sum = 0;
            for (int edge = 0; edge < graph.edgeCount; edge++) {
                sum += span(edge);
            }
            return sum;
        }

        int upperPort(int edge) {
            return turned[edge] ? graph.targetPort[edge] : graph.sourcePort[edge];
        }

        int lowerPort(int edge) {
            return turned[edge] ? graph.sourcePort[edge] : graph.targetPort[edge];
        }

        private void findDirections() {
            Arrays.fill(visit, UNSEEN);
            for (int edge = 0; edge < graph.edgeCount; edge++) {
                turned[edge] = false;
            }
            for (int node = 0; node < graph.nodeCount; node++) {
                if (visit[node] == UNSEEN) {
                    visitNode(this, node, 0);
                }
            }
            for (int edge = 0; edge < graph.edgeCount; edge++) {
                upper[edge] = turned[edge] ? graph.target[edge] : graph.source[edge];
                lower[edge] = turned[edge] ? graph.source[edge] : graph.target[edge];
            }
        }

        private static void visitNode(Layering search, int node, int depth) {
            if (depth >= MAX_NODES) {
                return;
            }
            search.visit[node] = BEGUN;
            for (int edge = 0; edge < search.graph.edgeCount; edge++) {
                if (search.graph.source[edge] == node) {
                    int target = search.graph.target[edge];
                    if (search.visit[target] == UNSEEN) {
                        visitNode(search, target, depth + 1);
                    } else if (search.visit[target] == BEGUN) {
                        search.turned[edge] = true;
                    }
                }
            }
            search.visit[node] = ENDED;
        }

        /**
         * The smallest total length is the dual of a flow of the greatest length in which each node
         * gets and gives as much as one unit on every edge would bring it. An edge with flow has its
         * least length in all the best layerings; so, once the flow can't be bettered, the lowest
         * layers that keep to this are the layers of the graph.
         */
        private void findLayers() {
            Arrays.fill(flow, 1);
            for (int turn = 0; turn < MAX_TURNS; turn++) {
                int node = pushDown();
                if (node < 0 || !betterFlow(node)) {
                    return;
                }
            }
        }

        /**
         * Pushes nodes down from layer 0 until every edge has its least length and no edge with flow
         * has more. Returns -1, or, if that has no end, a node behind a cycle of pushes.
         */
        private int pushDown() {
            Arrays.fill(layer, 0);
            Arrays.fill(pushedBy, -1);
            int pushed = -1;
            for (int pass = 0; pass < graph.nodeCount; pass++) {
                pushed = pushOnce();
                if (pushed < 0) {
                    return -1;
                }
            }
            return pushed;
        }

        private int pushOnce() {
            int pushed = -1;
            for (int edge = 0; edge < graph.edgeCount; edge++) {
                int excess = layer[lower[edge]] - layer[upper[edge]] - graph.least[edge];
                if (excess < 0) {
                    pushed = lower[edge];
                    layer[pushed] -= excess;
                    pushedBy[pushed] = edge;
                } else if (excess > 0 && flow[edge] > 0) {
                    pushed = upper[edge];
                    layer[pushed] += excess;
                    pushedBy[pushed] = edge;
                }
            }
            return pushed;
        }

        /** Moves flow along the cycle of pushes behind a node; false if there is none. */
        private boolean betterFlow(int behind) {
            int start = behind;
            for (int step = 0; step < graph.nodeCount; step++) {
                start = pusherOf(start);
                if (start < 0) {
                    return false;
                }
            }
            int amount = flowOfCycle(start);
            if (amount < 1) {
                return false;
            }
            moveFlow(start, amount);
            return true;
        }

        private int pusherOf(int node) {
            int edge = pushedBy[node];
            if (edge < 0) {
                return -1;
            }
            return lower[edge] == node ? upper[edge] : lower[edge];
        }

        /** The least flow of the edges that the cycle passes from their lower end, 0 without a cycle. */
        private int flowOfCycle(int start) {
            int amount = ENDLESS;
            int node = start;
            for (int step = 0; step < MAX_NODES; step++) {
                int edge = pushedBy[node];
                if (edge < 0) {
                    return 0;
                }
                if (upper[edge] == node) {
                    amount = Math.min(amount, flow[edge]);
                }
                node = pusherOf(node);
                if (node == start) {
                    return amount == ENDLESS ? 0 : amount;
                }
            }
            return 0;
        }

        private void moveFlow(int start, int amount) {
            int node = start;
            for (int step = 0; step < MAX_NODES; step++) {
                int edge = pushedBy[node];
                if (edge < 0) {
                    return;
                }
                flow[edge] += upper[edge] == node ? -amount : amount;
                node = pusherOf(node);
                if (node == start) {
                    return;
                }
            }
        }
    }

    /**
     * The vertices, their order in the layers and its crossings. Inside, a vertex has a number that
     * follows the order of the names, so that a node keeps its own; an edge has at most one part
     * below a layer, so that an edge and a layer give a part.
     */
    private static final class Order {
        final Graph graph;
        final Layering layering;
        int vertexCount = 0;
        final int[] nameOf = new int[MAX_VERTICES];
        final int[] layerAt = new int[MAX_VERTICES];
        final int[] firstBend = new int[MAX_EDGES];
        final int[] start = new int[MAX_LAYERS + 1];
        /** The vertices of all layers, those of layer y from start[y] on. */
        final int[] sequence = new int[MAX_VERTICES];
        final int[] place = new int[MAX_VERTICES];
        private final int[] remembered = new int[MAX_VERTICES];
        private final int[] best = new int[MAX_VERTICES];
        private final int[] closed = new int[MAX_VERTICES];
        private final int[] weightSum = new int[MAX_VERTICES];
        private final int[] weightParts = new int[MAX_VERTICES];
        private final int[] upperSpot = new int[MAX_EDGES];
        private final int[] lowerSpot = new int[MAX_EDGES];

        Order(Graph graph, Layering layering) {
            this.graph = graph;
            this.layering = layering;
        }

        // -- vertices

        /** Makes the vertices in the order that they have at first; there must be room for them. */
        void build() {
            vertexCount = 0;
            for (int node = 0; node < graph.nodeCount; node++) {
                putVertex(node, layering.layer[node]);
            }
            for (int edge = 0; edge < graph.edgeCount; edge++) {
                firstBend[edge] = vertexCount;
                int bottom = layering.bottom[edge];
                for (int y = layering.top[edge] + 1; y < bottom; y++) {
                    putVertex(FIRST_BEND_NAME + BEND_NAMES_OF_AN_EDGE * edge + y, y);
                }
            }
            orderByNames();
            for (int y = 0; y < layering.layerCount; y++) {
                closeGroups(y);
            }
        }

        private void putVertex(int name, int y) {
            if (vertexCount < MAX_VERTICES) {
                nameOf[vertexCount] = name;
                layerAt[vertexCount] = y;
                vertexCount++;
            }
        }

        private void orderByNames() {
            int next = 0;
            for (int y = 0; y < layering.layerCount; y++) {
                start[y] = next;
                for (int v = 0; v < vertexCount; v++) {
                    if (layerAt[v] == y) {
                        sequence[next] = v;
                        next++;
                    }
                }
            }
            start[layering.layerCount] = next;
        }

        /** Returns the number of the vertex with this name, -1 without one. */
        int named(int name) {
            if (name < FIRST_BEND_NAME) {
                return name >= 0 && name < graph.nodeCount ? name : -1;
            }
            int edge = (name - FIRST_BEND_NAME) / BEND_NAMES_OF_AN_EDGE;
            int y = (name - FIRST_BEND_NAME) % BEND_NAMES_OF_AN_EDGE;
            if (edge >= graph.edgeCount || y <= layering.top[edge] || y >= layering.bottom[edge]) {
                return -1;
            }
            return onEdge(edge, y);
        }

        /** The vertex by which an edge passes a layer from its upper to its lower end. */
        int onEdge(int edge, int y) {
            if (y <= layering.top[edge]) {
                return layering.upper[edge];
            }
            if (y >= layering.bottom[edge]) {
                return layering.lower[edge];
            }
            return firstBend[edge] + y - layering.top[edge] - 1;
        }

        boolean hasPartBelow(int edge, int y) {
            return layering.top[edge] <= y && y < layering.bottom[edge];
        }

        int groupAt(int v) {
            return v < graph.nodeCount ? graph.groupOf[v] : 0;
        }

        int widthAt(int v) {
            return v < graph.nodeCount ? graph.widthOf[v] : 1;
        }

        int sizeOf(int y) {
            return start[y + 1] - start[y];
        }

        int at(int y, int placeInLayer) {
            return sequence[start[y] + placeInLayer];
        }

        // -- changes of the order

        void remember() {
            System.arraycopy(sequence, 0, remembered, 0, MAX_VERTICES);
        }

        boolean isReordered() {
            for (int i = 0; i < vertexCount; i++) {
                if (sequence[i] != remembered[i]) {
                    return true;
                }
            }
            return false;
        }

        void takeOrder(int[] taken) {
            System.arraycopy(taken, 0, sequence, 0, MAX_VERTICES);
            for (int y = 0; y < layering.layerCount; y++) {
                setPlaces(y);
            }
        }

        private void setPlaces(int y) {
            for (int i = start[y]; i < start[y + 1]; i++) {
                place[sequence[i]] = i - start[y];
            }
        }

        /** Exchanges the vertices at a place, which must not be the last one, and the next one. */
        void swap(int y, int placeInLayer) {
            int i = start[y] + placeInLayer;
            int first = sequence[i];
            int second = sequence[i + 1];
            sequence[i] = second;
            sequence[i + 1] = first;
            place[second] = placeInLayer;
            place[first] = placeInLayer + 1;
        }

        private void moveTo(int v, int newPlace) {
            int y = layerAt[v];
            for (int p = place[v]; p > newPlace; p--) {
                swap(y, p - 1);
            }
            for (int p = place[v]; p < newPlace; p++) {
                swap(y, p);
            }
        }

        // -- groups

        private void closeGroups(int y) {
            int next = start[y];
            int begun = 0;
            for (int i = start[y]; i < start[y + 1]; i++) {
                int group = groupAt(sequence[i]);
                if (group == 0) {
                    closed[next] = sequence[i];
                    next++;
                } else if ((begun >> group & 1) == 0) {
                    begun |= 1 << group;
                    next = putGroup(group, i, start[y + 1], next);
                }
            }
            System.arraycopy(closed, start[y], sequence, start[y], sizeOf(y));
            setPlaces(y);
        }

        private int putGroup(int group, int from, int end, int firstFree) {
            int next = firstFree;
            for (int i = from; i < end; i++) {
                if (groupAt(sequence[i]) == group) {
                    closed[next] = sequence[i];
                    next++;
                }
            }
            return next;
        }

        boolean groupsTogether(int y) {
            int begun = 0;
            int before = 0;
            for (int i = start[y]; i < start[y + 1]; i++) {
                int group = groupAt(sequence[i]);
                if (group != 0 && group != before) {
                    if ((begun >> group & 1) != 0) {
                        return false;
                    }
                    begun |= 1 << group;
                }
                before = group;
            }
            return true;
        }

        // -- crossings

        /** Place and port in one number: ports are below 8, so it compares and weighs as both do. */
        private int spotOf(int edge, int y) {
            int port = 0;
            if (y == layering.top[edge]) {
                port = layering.upperPort(edge);
            } else if (y == layering.bottom[edge]) {
                port = layering.lowerPort(edge);
            }
            return PORTS * place[onEdge(edge, y)] + port;
        }

        int countBelow(int y) {
            int parts = 0;
            for (int edge = 0; edge < graph.edgeCount; edge++) {
                if (hasPartBelow(edge, y)) {
                    upperSpot[parts] = spotOf(edge, y);
                    lowerSpot[parts] = spotOf(edge, y + 1);
                    parts++;
                }
            }
            int count = 0;
            for (int i = 1; i < parts; i++) {
                for (int j = 0; j < i; j++) {
                    if ((upperSpot[i] - upperSpot[j]) * (lowerSpot[i] - lowerSpot[j]) < 0) {
                        count++;
                    }
                }
            }
            return count;
        }

        int countAll() {
            int count = 0;
            for (int y = 0; y < layering.layerCount - 1; y++) {
                count += countBelow(y);
            }
            return count;
        }

        int countBetween(int edge, int other) {
            int count = 0;
            for (int y = 0; y < layering.layerCount - 1; y++) {
                if (hasPartBelow(edge, y) && hasPartBelow(other, y)) {
                    int above = spotOf(edge, y) - spotOf(other, y);
                    int below = spotOf(edge, y + 1) - spotOf(other, y + 1);
                    if (above * below < 0) {
                        count++;
                    }
                }
            }
            return count;
        }

        // -- sweeps

        void sweepThrough(boolean down) {
            if (down) {
                for (int y = 1; y < layering.layerCount; y++) {
                    orderByWeights(y, y - 1);
                }
            } else {
                for (int y = layering.layerCount - 2; y >= 0; y--) {
                    orderByWeights(y, y + 1);
                }
            }
        }

        private void orderByWeights(int y, int from) {
            weigh(y, from);
            for (int i = start[y] + 1; i < start[y + 1]; i++) {
                int v = sequence[i];
                int free = i;
                for (int j = i - 1; j >= start[y] && isLighter(v, sequence[j]); j--) {
                    sequence[j + 1] = sequence[j];
                    free = j;
                }
                sequence[free] = v;
            }
            closeGroups(y);
        }

        private void weigh(int y, int from) {
            for (int i = start[y]; i < start[y + 1]; i++) {
                weightSum[sequence[i]] = 0;
                weightParts[sequence[i]] = 0;
            }
            for (int edge = 0; edge < graph.edgeCount; edge++) {
                if (hasPartBelow(edge, Math.min(y, from))) {
                    int v = onEdge(edge, y);
                    weightSum[v] += spotOf(edge, from);
                    weightParts[v]++;
                }
            }
            for (int i = start[y]; i < start[y + 1]; i++) {
                int v = sequence[i];
                if (weightParts[v] == 0) {
                    weightSum[v] = PORTS * place[v];
                    weightParts[v] = 1;
                }
            }
        }

        private boolean isLighter(int v, int other) {
            return weightSum[v] * weightParts[other] < weightSum[other] * weightParts[v];
        }

        // -- sifting

        void siftVertex(int v) {
            int y = layerAt[v];
            int bestPlace = place[v];
            int fewest = ENDLESS;
            int size = sizeOf(y);
            for (int p = 0; p < size; p++) {
                moveTo(v, p);
                if (groupsTogether(y)) {
                    // all the crossings that a move in this layer can change
                    int count = countBelow(y - 1) + countBelow(y);
                    if (count < fewest) {
                        fewest = count;
                        bestPlace = p;
                    }
                }
            }
            moveTo(v, bestPlace);
        }

        void siftEveryVertex() {
            for (int y = 0; y < layering.layerCount; y++) {
                for (int v = 0; v < vertexCount; v++) {
                    if (layerAt[v] == y) {
                        siftVertex(v);
                    }
                }
            }
        }

        /** Goes through the rounds, takes the best order and returns its number of crossings. */
        int improve(int rounds) {
            System.arraycopy(sequence, 0, best, 0, MAX_VERTICES);
            int fewest = countAll();
            for (int round = 0; round < rounds; round++) {
                sweepThrough(true);
                sweepThrough(false);
                siftEveryVertex();
                int count = countAll();
                if (count < fewest) {
                    fewest = count;
                    System.arraycopy(sequence, 0, best, 0, MAX_VERTICES);
                }
            }
            takeOrder(best);
            return fewest;
        }
    }

    /** The left coordinates of the vertices, and what is measured with them. */
    private static final class Coordinates {
        final Graph graph;
        final Layering layering;
        final Order order;
        final int[] leftOf = new int[MAX_VERTICES];
        private final int[] lefts = new int[MAX_EDGES];

        Coordinates(Graph graph, Layering layering, Order order) {
            this.graph = graph;
            this.layering = layering;
            this.order = order;
        }

        /** Places all vertices as far to the left as possible. */
        void pack() {
            for (int y = 0; y < layering.layerCount; y++) {
                int free = 0;
                for (int i = order.start[y]; i < order.start[y + 1]; i++) {
                    int v = order.sequence[i];
                    leftOf[v] = free;
                    free += order.widthAt(v) + 1;
                }
            }
        }

        void alignLayers() {
            for (int y = 1; y < layering.layerCount; y++) {
                int limit = ENDLESS;
                for (int i = order.start[y + 1] - 1; i >= order.start[y]; i--) {
                    int v = order.sequence[i];
                    int wanted = Math.min(desiredLeft(v, y), limit - order.widthAt(v));
                    leftOf[v] = Math.max(leftOf[v], wanted);
                    limit = leftOf[v] - 1;
                }
            }
        }

        /** The middle left coordinate of the upper ends of the parts to a vertex, its own without parts. */
        private int desiredLeft(int v, int y) {
            int count = 0;
            for (int edge = 0; edge < graph.edgeCount; edge++) {
                if (order.hasPartBelow(edge, y - 1) && order.onEdge(edge, y) == v) {
                    putSorted(count, leftOf[order.onEdge(edge, y - 1)]);
                    count++;
                }
            }
            return count == 0 ? leftOf[v] : lefts[(count - 1) / 2];
        }

        private void putSorted(int count, int value) {
            int free = count;
            for (int i = count - 1; i >= 0 && lefts[i] > value; i--) {
                lefts[i + 1] = lefts[i];
                free = i;
            }
            lefts[free] = value;
        }

        int rightOf(int v) {
            return leftOf[v] + order.widthAt(v);
        }

        int greatestRight() {
            int greatest = 0;
            for (int v = 0; v < order.vertexCount; v++) {
                greatest = Math.max(greatest, rightOf(v));
            }
            return greatest;
        }

        private int shift(int edge, int y) {
            return Math.abs(leftOf[order.onEdge(edge, y)] - leftOf[order.onEdge(edge, y + 1)]);
        }

        int sumOfShifts() {
            int sum = 0;
            for (int edge = 0; edge < graph.edgeCount; edge++) {
                int bottom = layering.bottom[edge];
                for (int y = layering.top[edge]; y < bottom; y++) {
                    sum += shift(edge, y);
                }
            }
            return sum;
        }

        int straightParts(int edge) {
            int count = 0;
            int bottom = layering.bottom[edge];
            for (int y = layering.top[edge]; y < bottom; y++) {
                if (shift(edge, y) == 0) {
                    count++;
                }
            }
            return count;
        }

        /** A side of the border of a group that has nodes: 0 left, 1 right, 2 lowest, 3 highest layer. */
        int sideOf(int group, int side) {
            boolean smallest = side == 0 || side == 2;
            int found = smallest ? ENDLESS : 0;
            for (int node = 0; node < graph.nodeCount; node++) {
                if (graph.groupOf[node] == group) {
                    int value = sideOfNode(node, side);
                    found = smallest ? Math.min(found, value) : Math.max(found, value);
                }
            }
            return found;
        }

        private int sideOfNode(int node, int side) {
            if (side == 0) {
                return leftOf[node];
            }
            return side == 1 ? rightOf(node) : layering.layer[node];
        }

        int countIntruders(int group) {
            int left = sideOf(group, 0);
            int right = sideOf(group, 1);
            int lowest = sideOf(group, 2);
            int highest = sideOf(group, 3);
            int count = 0;
            for (int node = 0; node < graph.nodeCount; node++) {
                int y = layering.layer[node];
                boolean inside = y >= lowest && y <= highest && leftOf[node] < right && rightOf(node) > left;
                if (inside && graph.groupOf[node] != group) {
                    count++;
                }
            }
            return count;
        }
    }

    /** The text buffer, and the edge that was read from it last. */
    private static final class Text {
        final char[] signs = new char[MAX_TEXT];
        int length = 0;
        int position = 0;
        int edgesFound = 0;
        int source = 0;
        int target = 0;
        int sourcePort = 0;
        int targetPort = 0;
        int least = 0;

        void put(char sign) {
            if (length < MAX_TEXT) {
                signs[length] = sign;
                length++;
            }
        }

        /** Reads all edges, and returns NONE or the position at which this failed. */
        int findFault(int nodeCount) {
            position = 0;
            edgesFound = 0;
            for (int step = 0; step < MAX_TEXT && position < length; step++) {
                if (!readEdge(nodeCount)) {
                    return position;
                }
                edgesFound++;
            }
            return NONE;
        }

        /** Reads an edge from the position on; if that fails, the position stays at the fault. */
        boolean readEdge(int nodeCount) {
            source = readNumber(nodeCount, NONE);
            if (source < 0) {
                return false;
            }
            sourcePort = readOption('.', '0', '7', 0);
            if (sourcePort < 0 || !take('>')) {
                return false;
            }
            target = readNumber(nodeCount, source);
            if (target < 0) {
                return false;
            }
            targetPort = readOption('.', '0', '7', 0);
            if (targetPort < 0) {
                return false;
            }
            least = readOption('=', '1', '3', 1);
            return least >= 0 && take(';');
        }

        /** Reads the number of a node that is not the forbidden one; -1 if that fails. */
        private int readNumber(int nodeCount, int forbidden) {
            int first = position;
            int number = readDigit('0', '9');
            if (number > 0) {
                int second = readDigit('0', '9');
                number = second < 0 ? number : 10 * number + second;
            }
            if (number >= nodeCount || number == forbidden) {
                position = first;
                return -1;
            }
            return number;
        }

        private int readOption(char sign, char low, char high, int otherwise) {
            return take(sign) ? readDigit(low, high) : otherwise;
        }

        private int readDigit(char low, char high) {
            if (position >= length || signs[position] < low || signs[position] > high) {
                return -1;
            }
            position++;
            return signs[position - 1] - '0';
        }

        private boolean take(char sign) {
            if (position >= length || signs[position] != sign) {
                return false;
            }
            position++;
            return true;
        }
    }

    /** What keep() keeps; the rest of the state follows from it. */
    private static final class Slot {
        boolean filled = false;
        boolean laidOut = false;
        final Graph graph = new Graph();
        final int[] order = new int[MAX_VERTICES];
        final int[] leftOf = new int[MAX_VERTICES];
    }
}
