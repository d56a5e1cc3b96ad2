import java.util.Random;

/** Runs of 512 calls, the same ones at each start, on LayeredDrawing and on the Model side by side. */
public final class RandomRunsTest {
    private static final int RUNS = 600;
    private static final int CALLS = 512;
    /** A step that writes an edge, at most 10 signs, asks for the fault behind each of them. */
    private static final int LONGEST_STEP = 20;
    private static final int[] ODD = {-1, Integer.MIN_VALUE, Integer.MAX_VALUE, 12, 20, 34, 99, 100, 139, 899, 900, 8, 10};

    private final Check check = new Check();
    private final Random random;
    private final LayeredDrawing x = new LayeredDrawing();
    private final Model m = new Model();
    private final int edgeLimit;
    private final boolean manyGroups;
    private final boolean longEdges;

    private RandomRunsTest(long seed) {
        random = new Random(seed);
        edgeLimit = 2 + random.nextInt(19);
        manyGroups = random.nextBoolean();
        longEdges = random.nextInt(4) == 0;
    }

    public static void main(String[] args) {
        for (int run = 0; run < RUNS; run++) {
            RandomRunsTest test = new RandomRunsTest(run);
            test.check.promise(0, "run " + run);
            test.run();
        }
        System.out.println(RUNS + " runs agree with the model");
    }

    private void run() {
        int wanted = 2 + random.nextInt(11);
        for (int i = 0; i < wanted; i++) {
            addNode();
        }
        for (int i = 0; i < edgeLimit; i++) {
            addEdge();
        }
        while (check.count() < CALLS - 1 - LONGEST_STEP) {
            call();
        }
        while (check.count() < CALLS - 1) {
            askGraph(random.nextInt(9));
        }
        check.due("checksum()", x.checksum(), m.checksum());
        check.endIfWrong();
    }

    private int some(int bound) {
        if (random.nextInt(25) == 0) {
            return ODD[random.nextInt(ODD.length)];
        }
        return bound < 1 ? 0 : random.nextInt(bound);
    }

    private int someVertex() {
        int layer = m.layers() < 1 ? 0 : random.nextInt(m.layers());
        int size = m.vertices(layer);
        if (size < 1 || random.nextInt(10) == 0) {
            return random.nextInt(950) - 5;
        }
        return random.nextInt(30) == 0 ? ODD[random.nextInt(ODD.length)] : m.vertex(layer, random.nextInt(size));
    }

    private void addNode() {
        int width = 1 + some(9);
        int group = manyGroups ? some(4) : random.nextInt(4) == 0 ? some(4) : 0;
        check.due("addNode(" + width + ", " + group + ")", x.addNode(width, group), m.addNode(width, group));
    }

    private void addEdge() {
        int source = some(m.nodes());
        int target = some(m.nodes());
        if (random.nextInt(5) != 0 && source > target) {
            int swapped = source;
            source = target;
            target = swapped;
        }
        int sourcePort = random.nextInt(3) == 0 ? some(8) : 0;
        int targetPort = random.nextInt(3) == 0 ? some(8) : 0;
        int least = longEdges ? 1 + some(3) : random.nextInt(5) == 0 ? some(5) : 1;
        check.due("addEdge(" + source + ", " + target + ", " + sourcePort + ", " + targetPort + ", " + least + ")",
            x.addEdge(source, target, sourcePort, targetPort, least),
            m.addEdge(source, target, sourcePort, targetPort, least));
    }

    private void call() {
        int kind = random.nextInt(100);
        if (kind < 3) {
            changeGraph(random.nextInt(24));
        } else if (kind < 10) {
            check.due("layOut()", x.layOut(), m.layOut());
        } else if (kind < 20) {
            askGraph(random.nextInt(9));
        } else if (kind < 40) {
            askOrder(random.nextInt(6));
        } else if (kind < 62) {
            changeOrder(random.nextInt(10));
        } else if (kind < 80) {
            coordinates(random.nextInt(7));
        } else if (kind < 90) {
            text(random.nextInt(12));
        } else {
            slots(random.nextInt(10));
        }
    }

    private void changeGraph(int kind) {
        if (kind == 0) {
            check.due("clear()", x.clear(), m.clear());
        } else if (kind < 8) {
            addNode();
        } else if (kind < 16) {
            addEdge();
        } else if (kind < 20) {
            check.due("removeEdge()", x.removeEdge(), m.removeEdge());
        } else {
            int node = some(m.nodes());
            int group = some(4);
            check.due("setGroup(" + node + ", " + group + ")", x.setGroup(node, group), m.setGroup(node, group));
        }
    }

    private void askGraph(int kind) {
        int edge = some(m.edges());
        int node = some(m.nodes());
        int what = some(5);
        switch (kind) {
            case 0 -> check.due("nodes()", x.nodes(), m.nodes());
            case 1 -> check.due("edges()", x.edges(), m.edges());
            case 2 -> check.due("edge(" + edge + ", " + what + ")", x.edge(edge, what), m.edge(edge, what));
            case 3 -> check.due("reversed(" + edge + ")", x.reversed(edge), m.reversed(edge));
            case 4 -> check.due("reversals()", x.reversals(), m.reversals());
            case 5 -> check.due("layerOf(" + node + ")", x.layerOf(node), m.layerOf(node));
            case 6 -> check.due("lengthOf(" + edge + ")", x.lengthOf(edge), m.lengthOf(edge));
            case 7 -> check.due("totalLength()", x.totalLength(), m.totalLength());
            default -> check.due("layers()", x.layers(), m.layers());
        }
    }

    private void askOrder(int kind) {
        int layer = some(m.layers());
        int place = some(Math.max(0, m.vertices(layer)) + 1);
        int edge = some(m.edges());
        int other = some(m.edges());
        int vertex = someVertex();
        switch (kind) {
            case 0 -> check.due("vertices(" + layer + ")", x.vertices(layer), m.vertices(layer));
            case 1 -> check.due("vertex(" + layer + ", " + place + ")", x.vertex(layer, place), m.vertex(layer, place));
            case 2 -> check.due("placeOf(" + vertex + ")", x.placeOf(vertex), m.placeOf(vertex));
            case 3 -> check.due("crossingsBelow(" + layer + ")", x.crossingsBelow(layer), m.crossingsBelow(layer));
            case 4 -> check.due("crossings()", x.crossings(), m.crossings());
            default -> check.due("crossingsOf(" + edge + ", " + other + ")",
                x.crossingsOf(edge, other), m.crossingsOf(edge, other));
        }
    }

    private void changeOrder(int kind) {
        int layer = some(m.layers());
        int place = some(Math.max(0, m.vertices(layer)));
        int vertex = someVertex();
        boolean down = random.nextBoolean();
        if (kind < 2) {
            check.due("sweep(" + down + ")", x.sweep(down), m.sweep(down));
        } else if (kind < 5) {
            check.due("sift(" + vertex + ")", x.sift(vertex), m.sift(vertex));
        } else if (kind < 9) {
            check.due("exchange(" + layer + ", " + place + ")", x.exchange(layer, place), m.exchange(layer, place));
        } else if (random.nextInt(4) == 0) {
            int rounds = random.nextInt(5) == 0 ? some(8) : 1 + random.nextInt(2);
            check.due("reduce(" + rounds + ")", x.reduce(rounds), m.reduce(rounds));
        } else if (random.nextInt(2) == 0) {
            check.due("siftAll()", x.siftAll(), m.siftAll());
        }
    }

    private void coordinates(int kind) {
        int vertex = someVertex();
        int edge = some(m.edges());
        int group = random.nextInt(5);
        int side = some(4);
        switch (kind) {
            case 0 -> check.due("align()", x.align(), m.align());
            case 1 -> check.due("left(" + vertex + ")", x.left(vertex), m.left(vertex));
            case 2 -> check.due("width()", x.width(), m.width());
            case 3 -> check.due("spread()", x.spread(), m.spread());
            case 4 -> check.due("straight(" + edge + ")", x.straight(edge), m.straight(edge));
            case 5 -> check.due("border(" + group + ", " + side + ")", x.border(group, side), m.border(group, side));
            default -> check.due("intruders(" + group + ")", x.intruders(group), m.intruders(group));
        }
    }

    private void text(int kind) {
        if (kind < 5) {
            String signs = random.nextInt(3) == 0 ? someSigns() : someEdge();
            for (char sign : signs.toCharArray()) {
                check.due("append(" + (int) sign + ")", x.append(sign), m.append(sign));
                check.due("faultPosition()", x.faultPosition(), m.faultPosition());
            }
        } else if (kind < 6) {
            int sign = random.nextInt(4) == 0 ? ODD[random.nextInt(ODD.length)] : 28 + random.nextInt(104);
            check.due("append(" + sign + ")", x.append(sign), m.append(sign));
        } else if (kind < 8) {
            check.due("faultPosition()", x.faultPosition(), m.faultPosition());
        } else if (kind < 10) {
            check.due("clearText()", x.clearText(), m.clearText());
        } else if (random.nextInt(6) == 0) {
            check.due("read()", x.read(), m.read());
        }
    }

    private String someEdge() {
        int bound = Math.max(1, m.nodes());
        String port = random.nextInt(3) == 0 ? "." + random.nextInt(8) : "";
        String least = random.nextInt(3) == 0 ? "=" + (1 + random.nextInt(3)) : "";
        return random.nextInt(bound) + port + ">" + random.nextInt(bound) + least + ";";
    }

    private String someSigns() {
        StringBuilder signs = new StringBuilder();
        for (int i = random.nextInt(5); i >= 0; i--) {
            signs.append("0123456789.>=;01>;".charAt(random.nextInt(18)));
        }
        return signs.toString();
    }

    private void slots(int kind) {
        int slot = some(2);
        if (kind < 3) {
            check.due("keep(" + slot + ")", x.keep(slot), m.keep(slot));
        } else if (kind < 5) {
            check.due("restore(" + slot + ")", x.restore(slot), m.restore(slot));
        } else {
            check.due("checksum()", x.checksum(), m.checksum());
        }
    }
}
