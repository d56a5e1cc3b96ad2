import java.util.Random;

/** Layers of small graphs against all layerings there are, and of many graphs against the Model. */
public final class LayeringTest {
    private static final int SMALL = 300;
    private static final int LARGE = 1500;

    private final Check check = new Check();
    private final Random random;
    private final LayeredDrawing x = new LayeredDrawing();
    private final Model m = new Model();

    private LayeringTest(long seed) {
        random = new Random(seed);
    }

    public static void main(String[] args) {
        for (int seed = 0; seed < SMALL + LARGE; seed++) {
            LayeringTest test = new LayeringTest(seed);
            test.check.promise(12, "layerOf, seed " + seed);
            test.build(seed < SMALL);
            test.compareWithModel();
            if (seed < SMALL) {
                test.compareWithAll();
            }
            test.check.endIfWrong();
        }
        System.out.println(SMALL + LARGE + " layerings are the lowest of the shortest");
    }

    private void build(boolean small) {
        int nodes = small ? 2 + random.nextInt(3) : 2 + random.nextInt(11);
        int edges = random.nextInt(small ? 9 : 21);
        for (int node = 0; node < nodes; node++) {
            x.addNode(1, 0);
            m.addNode(1, 0);
        }
        for (int edge = 0; edge < edges; edge++) {
            int source = random.nextInt(nodes);
            int target = (source + 1 + random.nextInt(nodes - 1)) % nodes;
            int least = 1 + random.nextInt(3);
            check.due("addEdge", x.addEdge(source, target, 0, 0, least), m.addEdge(source, target, 0, 0, least));
        }
    }

    private void compareWithModel() {
        for (int node = 0; node < m.nodes(); node++) {
            check.due("layerOf(" + node + ")", x.layerOf(node), m.layerOf(node));
        }
        check.due("totalLength()", x.totalLength(), m.totalLength());
    }

    /** Goes through all layerings with as many layers as a chain of all nodes can need. */
    private void compareWithAll() {
        int nodes = x.nodes();
        int limit = 3 * (nodes - 1) + 1;
        int[][] directed = directedEdges();
        int[] layer = new int[nodes];
        int[] lowest = new int[nodes];
        int shortest = Integer.MAX_VALUE;
        int all = (int) Math.pow(limit, nodes);
        for (int code = 0; code < all; code++) {
            for (int node = 0, rest = code; node < nodes; node++, rest /= limit) {
                layer[node] = rest % limit;
            }
            int length = length(layer, directed);
            if (length < shortest) {
                shortest = length;
                System.arraycopy(layer, 0, lowest, 0, nodes);
            } else if (length == shortest) {
                for (int node = 0; node < nodes; node++) {
                    lowest[node] = Math.min(lowest[node], layer[node]);
                }
            }
        }
        check.due("totalLength()", x.totalLength(), shortest);
        for (int node = 0; node < nodes; node++) {
            check.due("layerOf(" + node + ")", x.layerOf(node), lowest[node]);
        }
    }

    /** The upper end, the lower end and the least length of each edge. */
    private int[][] directedEdges() {
        int[][] directed = new int[x.edges()][];
        for (int edge = 0; edge < directed.length; edge++) {
            int upper = x.reversed(edge);
            directed[edge] = new int[] {x.edge(edge, upper), x.edge(edge, 1 - upper), x.edge(edge, 4)};
        }
        return directed;
    }

    /** The total length of a layering, more than any has if it is none. */
    private static int length(int[] layer, int[][] directed) {
        int sum = 0;
        for (int[] edge : directed) {
            int length = layer[edge[1]] - layer[edge[0]];
            if (length < edge[2]) {
                return Integer.MAX_VALUE;
            }
            sum += length;
        }
        return sum;
    }
}
