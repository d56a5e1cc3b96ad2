import java.util.ArrayList;
import java.util.List;
import java.util.Set;
import java.util.TreeSet;
import java.util.function.Supplier;
import java.util.function.ToLongFunction;

/**
 * Every call that the document refuses, in several states: the error that is due, the first one if two apply, and
 * that nothing has changed then, neither the drawing nor the text nor the slots.
 */
public final class RefusalsTest extends Steps {
    /** A drawing that is made anew each time, and what the numbers in its range are. */
    private static final class State {
        final String name;
        final Supplier<LayeredDrawing> maker;
        final int nodes;
        final int edges;
        final boolean laidOut;
        final int[] sizes;
        final Set<Integer> names;
        final List<Long> told;

        /** The sizes are those of the layers, if it is laid out. */
        State(String name, Supplier<LayeredDrawing> maker, int nodes, int edges, boolean laidOut, int[] sizes,
              Set<Integer> names) {
            this.name = name;
            this.maker = maker;
            this.nodes = nodes;
            this.edges = edges;
            this.laidOut = laidOut;
            this.sizes = sizes;
            this.names = names;
            told = Probe.of(maker);
        }
    }

    private static final State EMPTY =
        new State("empty", LayeredDrawing::new, 0, 0, false, new int[0], Set.of());
    private static final State EMPTY_LAID_OUT =
        new State("empty and laid out", RefusalsTest::emptyLaidOut, 0, 0, true, new int[0], Set.of());
    private static final State PLAIN =
        new State("plain", RefusalsTest::plain, 3, 2, false, new int[0], Set.of());
    private static final State DRAWN = new State("drawn", RefusalsTest::drawn, 5, 3, true, new int[] {3, 3, 2},
        Set.of(0, 1, 2, 3, 4, 101, 141, 181));
    private static final State CROWDED = new State("crowded", RefusalsTest::crowded, 12, 20, true,
        new int[] {8, 17, 17, 4, 6, 6, 2}, crowdedNames());
    private static final State[] STATES = {EMPTY, EMPTY_LAID_OUT, PLAIN, DRAWN, CROWDED};

    public static void main(String[] args) {
        statesDiffer();
        for (State state : STATES) {
            graphCalls(state);
            graphQuestions(state);
            if (state.laidOut) {
                layerArguments(state);
                vertexArguments(state);
                otherArguments(state);
            } else {
                notLaidOut(state);
            }
            textAndSlots(state);
        }
        full();
        groupsTorn();
        nothingThere();
        twoErrorsInTheGraph();
        twoErrorsWithoutLayout();
        twoErrorsOfTextAndSlots();
        noneIsLast();
        CHECK.end();
    }

    // ---- the states

    private static LayeredDrawing emptyLaidOut() {
        LayeredDrawing x = new LayeredDrawing();
        due("layOut()", x.layOut(), 0);
        return x;
    }

    /** Not laid out, with a fault in the text; slot 0 keeps a drawing that is laid out, slot 1 nothing. */
    private static LayeredDrawing plain() {
        LayeredDrawing x = new LayeredDrawing();
        x.addNode(2, 0);
        x.addNode(3, 1);
        x.addNode(1, 1);
        x.addEdge(0, 1, 3, 4, 1);
        due("layOut()", x.layOut(), 3);
        due("keep(0)", x.keep(0), 3);
        x.addEdge(1, 2, 0, 7, 2);
        write(x, "0>1;1>1;");
        return x;
    }

    /** Laid out, in another order than at first and aligned; slot 1 keeps it without one edge. */
    private static LayeredDrawing drawn() {
        LayeredDrawing x = new LayeredDrawing();
        x.addNode(3, 0);
        x.addNode(2, 1);
        x.addNode(9, 1);
        x.addNode(1, 3);
        x.addNode(1, 1);
        x.addEdge(1, 2, 1, 2, 2);
        x.addEdge(0, 3, 0, 0, 2);
        x.keep(1);
        x.addEdge(3, 0, 5, 6, 1);
        due("layOut()", x.layOut(), 8);
        x.exchange(0, 1);
        x.exchange(1, 0);
        x.align();
        write(x, "0>1;2.7>4=3;");
        return x;
    }

    /** 12 nodes, 20 edges, 60 vertices, 100 characters and two slots in use. */
    private static LayeredDrawing crowded() {
        LayeredDrawing x = new LayeredDrawing();
        for (int node = 0; node < 12; node++) {
            x.addNode(1 + node % 9, node % 3);
        }
        x.keep(0);
        for (int edge = 0; edge < 14; edge++) {
            x.addEdge(0, 1, edge % 8, 7 - edge % 5, 3);
        }
        x.addEdge(1, 2, 1, 0, 3);
        for (int edge = 15; edge < 18; edge++) {
            x.addEdge(0, 2, 2, edge % 8, 1);
        }
        x.addEdge(1, 3, 7, 0, 2);
        x.addEdge(1, 4, 6, 1, 3);
        due("layOut()", x.layOut(), 60);
        x.exchange(1, 15);
        x.keep(1);
        x.exchange(2, 0);
        x.align();
        write(x, "0.0>1.0;".repeat(12) + "0>1;");
        return x;
    }

    private static Set<Integer> crowdedNames() {
        Set<Integer> names = new TreeSet<>();
        for (int node = 0; node < 12; node++) {
            names.add(node);
        }
        for (int edge = 0; edge < 14; edge++) {
            names.addAll(List.of(100 + 40 * edge + 1, 100 + 40 * edge + 2));
        }
        names.addAll(List.of(664, 665));
        for (int edge = 15; edge < 18; edge++) {
            for (int layer = 1; layer < 6; layer++) {
                names.add(100 + 40 * edge + layer);
            }
        }
        names.addAll(List.of(824, 864, 865));
        return names;
    }

    /** What is compared would not be alike if a call had worked. */
    private static void statesDiffer() {
        CHECK.promise(0, "the probe");
        due("names of the crowded one", CROWDED.names.size(), 60);
        List<ToLongFunction<LayeredDrawing>> changes = List.of(x -> x.clear(), x -> x.removeEdge(),
            x -> x.setGroup(0, 2), x -> x.setGroup(1, 2), x -> x.addNode(1, 0), x -> x.addEdge(1, 4, 0, 0, 1),
            x -> x.layOut(), x -> x.sift(181), x -> x.sweep(true), x -> x.exchange(0, 1), x -> x.exchange(2, 0),
            x -> x.append(';'), x -> x.clearText(), x -> x.read(), x -> x.keep(0), x -> x.keep(1), x -> x.restore(1));
        for (int i = 0; i < changes.size(); i++) {
            ToLongFunction<LayeredDrawing> change = changes.get(i);
            CHECK.holds("change " + i + " is seen", !toldAfter(DRAWN, change).equals(DRAWN.told));
        }
        CHECK.holds("the same is told again", toldAfter(DRAWN, x -> x.nodes()).equals(DRAWN.told));
    }

    // ---- helpers

    private static List<Long> toldAfter(State state, ToLongFunction<LayeredDrawing> made) {
        return Probe.of(() -> {
            LayeredDrawing x = state.maker.get();
            made.applyAsLong(x);
            return x;
        });
    }

    private static void refused(State state, String call, ToLongFunction<LayeredDrawing> made, int want) {
        due(call + " on the one that is " + state.name, made.applyAsLong(state.maker.get()), want);
        CHECK.holds(call + " changes nothing", toldAfter(state, made).equals(state.told));
    }

    private static void bad(State state, String call, ToLongFunction<LayeredDrawing> made) {
        refused(state, call, made, BAD);
    }

    private static void not(State state, String call, ToLongFunction<LayeredDrawing> made) {
        refused(state, call, made, NOT);
    }

    /** Some names that no vertex of the state has: around the nodes, and around the bends of each edge. */
    private static Set<Integer> strangeNames(State state) {
        Set<Integer> strange = new TreeSet<>(Set.of(MIN, -101, -1, 12, 99, 139, 899, 900, 901, 1000, MAX));
        strange.add(state.nodes);
        for (int edge = 0; edge <= state.edges; edge++) {
            strange.add(100 + 40 * edge);
            for (int layer = 1; layer <= state.sizes.length; layer++) {
                strange.add(100 + 40 * edge + layer);
            }
        }
        strange.removeAll(state.names);
        return strange;
    }

    // ---- each argument out of its range

    private static void graphCalls(State state) {
        CHECK.promise(3, "addNode, refused");
        for (int wrong : outside(1, 9)) {
            bad(state, "addNode(" + wrong + ", 0)", x -> x.addNode(wrong, 0));
        }
        for (int wrong : outside(0, 3)) {
            bad(state, "addNode(9, " + wrong + ")", x -> x.addNode(9, wrong));
        }
        CHECK.promise(4, "addEdge, refused");
        for (int wrong : outside(0, state.nodes - 1)) {
            bad(state, "addEdge(" + wrong + ", 0, 0, 0, 1)", x -> x.addEdge(wrong, 0, 0, 0, 1));
            bad(state, "addEdge(0, " + wrong + ", 0, 0, 1)", x -> x.addEdge(0, wrong, 0, 0, 1));
        }
        for (int node = 0; node < state.nodes; node++) {
            int same = node;
            bad(state, "addEdge(" + node + ", " + node + ", 0, 0, 1)", x -> x.addEdge(same, same, 0, 0, 1));
        }
        for (int wrong : outside(0, 7)) {
            bad(state, "addEdge(0, 1, " + wrong + ", 7, 3)", x -> x.addEdge(0, 1, wrong, 7, 3));
            bad(state, "addEdge(0, 1, 7, " + wrong + ", 3)", x -> x.addEdge(0, 1, 7, wrong, 3));
        }
        for (int wrong : outside(1, 3)) {
            bad(state, "addEdge(0, 1, 7, 7, " + wrong + ")", x -> x.addEdge(0, 1, 7, 7, wrong));
        }
        CHECK.promise(6, "setGroup, refused");
        for (int wrong : outside(0, state.nodes - 1)) {
            bad(state, "setGroup(" + wrong + ", 2)", x -> x.setGroup(wrong, 2));
        }
        for (int wrong : outside(0, 3)) {
            bad(state, "setGroup(0, " + wrong + ")", x -> x.setGroup(0, wrong));
        }
    }

    private static void graphQuestions(State state) {
        CHECK.promise(9, "edge, refused");
        for (int wrong : outside(0, state.edges - 1)) {
            bad(state, "edge(" + wrong + ", 4)", x -> x.edge(wrong, 4));
            CHECK.promise(10, "reversed, refused");
            bad(state, "reversed(" + wrong + ")", x -> x.reversed(wrong));
            CHECK.promise(13, "lengthOf, refused");
            bad(state, "lengthOf(" + wrong + ")", x -> x.lengthOf(wrong));
        }
        CHECK.promise(9, "edge, refused");
        for (int wrong : outside(0, 4)) {
            bad(state, "edge(0, " + wrong + ")", x -> x.edge(0, wrong));
        }
        CHECK.promise(12, "layerOf, refused");
        for (int wrong : outside(0, state.nodes - 1)) {
            bad(state, "layerOf(" + wrong + ")", x -> x.layerOf(wrong));
        }
    }

    private static void layerArguments(State state) {
        int layers = state.sizes.length;
        for (int wrong : outside(0, layers - 1)) {
            CHECK.promise(17, "vertices, refused");
            bad(state, "vertices(" + wrong + ")", x -> x.vertices(wrong));
            CHECK.promise(18, "vertex, refused");
            bad(state, "vertex(" + wrong + ", 0)", x -> x.vertex(wrong, 0));
            CHECK.promise(27, "exchange, refused");
            bad(state, "exchange(" + wrong + ", 0)", x -> x.exchange(wrong, 0));
        }
        CHECK.promise(20, "crossingsBelow, refused");
        for (int wrong : outside(0, layers - 2)) {
            bad(state, "crossingsBelow(" + wrong + ")", x -> x.crossingsBelow(wrong));
        }
        for (int y = 0; y < layers; y++) {
            int layer = y;
            CHECK.promise(18, "vertex, refused");
            for (int wrong : outside(0, state.sizes[y] - 1)) {
                bad(state, "vertex(" + y + ", " + wrong + ")", x -> x.vertex(layer, wrong));
            }
            CHECK.promise(27, "exchange, refused: there is no vertex behind it");
            for (int wrong : outside(0, state.sizes[y] - 2)) {
                bad(state, "exchange(" + y + ", " + wrong + ")", x -> x.exchange(layer, wrong));
            }
            bad(state, "exchange(" + y + ", its size)", x -> x.exchange(layer, state.sizes[layer]));
        }
    }

    private static void vertexArguments(State state) {
        for (int wrong : strangeNames(state)) {
            due("placeOf(" + wrong + ")", state.maker.get().placeOf(wrong), BAD);
            due("left(" + wrong + ")", state.maker.get().left(wrong), BAD);
            due("sift(" + wrong + ")", state.maker.get().sift(wrong), BAD);
        }
        for (int wrong : new int[] {MIN, -1, state.nodes, 100, 100 + 40 * state.edges + 1, MAX}) {
            CHECK.promise(19, "placeOf, refused");
            bad(state, "placeOf(" + wrong + ")", x -> x.placeOf(wrong));
            CHECK.promise(29, "left, refused");
            bad(state, "left(" + wrong + ")", x -> x.left(wrong));
            CHECK.promise(24, "sift, refused");
            bad(state, "sift(" + wrong + ")", x -> x.sift(wrong));
        }
        for (int name : state.names) {
            CHECK.holds("placeOf(" + name + ") is a place", state.maker.get().placeOf(name) >= 0);
        }
    }

    private static void otherArguments(State state) {
        CHECK.promise(26, "reduce, refused");
        for (int wrong : outside(1, 6)) {
            bad(state, "reduce(" + wrong + ")", x -> x.reduce(wrong));
        }
        for (int wrong : outside(0, state.edges - 1)) {
            CHECK.promise(22, "crossingsOf, refused");
            bad(state, "crossingsOf(" + wrong + ", 0)", x -> x.crossingsOf(wrong, 0));
            bad(state, "crossingsOf(0, " + wrong + ")", x -> x.crossingsOf(0, wrong));
            CHECK.promise(32, "straight, refused");
            bad(state, "straight(" + wrong + ")", x -> x.straight(wrong));
        }
        CHECK.promise(22, "crossingsOf, refused: another edge");
        for (int edge = 0; edge < state.edges; edge++) {
            int same = edge;
            bad(state, "crossingsOf(" + edge + ", " + edge + ")", x -> x.crossingsOf(same, same));
        }
        for (int wrong : outside(1, 3)) {
            CHECK.promise(33, "border, refused");
            bad(state, "border(" + wrong + ", 0)", x -> x.border(wrong, 0));
            CHECK.promise(34, "intruders, refused");
            bad(state, "intruders(" + wrong + ")", x -> x.intruders(wrong));
        }
        CHECK.promise(33, "border, refused");
        for (int wrong : outside(0, 3)) {
            bad(state, "border(1, " + wrong + ")", x -> x.border(1, wrong));
        }
    }

    private static void textAndSlots(State state) {
        CHECK.promise(35, "append, refused");
        for (int wrong : new int[] {31, 127, 0, -1, 256 + 48, 65536 + 48, MIN, MAX}) {
            bad(state, "append(" + wrong + ")", x -> x.append(wrong));
        }
        for (int wrong : outside(0, 1)) {
            CHECK.promise(39, "keep, refused");
            bad(state, "keep(" + wrong + ")", x -> x.keep(wrong));
            CHECK.promise(40, "restore, refused");
            bad(state, "restore(" + wrong + ")", x -> x.restore(wrong));
        }
    }

    /** The calls that need a layout, with arguments that would be right. */
    private static void notLaidOut(State state) {
        CHECK.promise(17, "not laid out");
        not(state, "vertices(0)", x -> x.vertices(0));
        not(state, "vertex(0, 0)", x -> x.vertex(0, 0));
        not(state, "placeOf(0)", x -> x.placeOf(0));
        not(state, "crossingsBelow(0)", x -> x.crossingsBelow(0));
        not(state, "crossings()", x -> x.crossings());
        not(state, "crossingsOf(0, 1)", x -> x.crossingsOf(0, 1));
        CHECK.promise(23, "not laid out");
        not(state, "sweep(true)", x -> x.sweep(true));
        not(state, "sweep(false)", x -> x.sweep(false));
        not(state, "sift(0)", x -> x.sift(0));
        not(state, "siftAll()", x -> x.siftAll());
        not(state, "reduce(1)", x -> x.reduce(1));
        not(state, "exchange(0, 0)", x -> x.exchange(0, 0));
        CHECK.promise(28, "not laid out");
        not(state, "align()", x -> x.align());
        not(state, "left(0)", x -> x.left(0));
        not(state, "width()", x -> x.width());
        not(state, "spread()", x -> x.spread());
        not(state, "straight(0)", x -> x.straight(0));
        not(state, "border(1, 0)", x -> x.border(1, 0));
        not(state, "intruders(1)", x -> x.intruders(1));
    }

    // ---- no room, not possible, groups

    private static void full() {
        CHECK.promise(3, "addNode, FULL");
        refused(CROWDED, "addNode(1, 0)", x -> x.addNode(1, 0), FULL);
        refused(CROWDED, "addNode(9, 3)", x -> x.addNode(9, 3), FULL);
        CHECK.promise(4, "addEdge, FULL");
        refused(CROWDED, "addEdge(0, 1, 0, 0, 1)", x -> x.addEdge(0, 1, 0, 0, 1), FULL);
        refused(CROWDED, "addEdge(11, 10, 7, 7, 3)", x -> x.addEdge(11, 10, 7, 7, 3), FULL);
        CHECK.promise(35, "append, FULL");
        refused(CROWDED, "append(32)", x -> x.append(32), FULL);
        refused(CROWDED, "append(126)", x -> x.append(126), FULL);
        CHECK.promise(38, "read, FULL");
        refused(CROWDED, "read()", x -> x.read(), FULL);
        CHECK.promise(16, "layOut, FULL");
        State over = new State("over 60", RefusalsTest::overCrowded, 12, 20, false, new int[0], Set.of());
        refused(over, "layOut()", x -> x.layOut(), FULL);
        notLaidOut(over);
    }

    /** As the crowded one, but its last edge has one more bend, and it is not laid out. */
    private static LayeredDrawing overCrowded() {
        LayeredDrawing x = crowded();
        x.removeEdge();
        x.removeEdge();
        x.addEdge(1, 3, 0, 0, 3);
        x.addEdge(1, 4, 0, 0, 3);
        due("totalLength()", x.totalLength(), 69);
        return x;
    }

    private static void groupsTorn() {
        CHECK.promise(27, "exchange, refused: a group would not stay together");
        // 0 4 1 in the layer 0, where 4 and 1 are a group
        bad(DRAWN, "exchange(0, 0)", x -> x.exchange(0, 0));
        // 0, the group 5 8 11, 6, the group 7 10, and 9
        for (int place : new int[] {0, 3, 4, 6}) {
            bad(CROWDED, "exchange(0, " + place + ")", x -> x.exchange(0, place));
        }
        for (int place : new int[] {1, 2, 5}) {
            CHECK.holds("exchange(0, " + place + ") in a group", crowded().exchange(0, place) >= 0);
        }
    }

    private static void nothingThere() {
        CHECK.promise(5, "removeEdge, NOT_POSSIBLE");
        not(EMPTY, "removeEdge()", x -> x.removeEdge());
        not(EMPTY_LAID_OUT, "removeEdge()", x -> x.removeEdge());
        CHECK.promise(38, "read, NOT_POSSIBLE");
        not(PLAIN, "read()", x -> x.read());
        CHECK.promise(40, "restore, NOT_POSSIBLE");
        not(EMPTY, "restore(0)", x -> x.restore(0));
        not(EMPTY, "restore(1)", x -> x.restore(1));
        not(EMPTY_LAID_OUT, "restore(0)", x -> x.restore(0));
        not(PLAIN, "restore(1)", x -> x.restore(1));
        not(DRAWN, "restore(0)", x -> x.restore(0));
    }

    // ---- two errors at once

    private static void twoErrorsInTheGraph() {
        CHECK.promise(3, "addNode, BAD_VALUE before FULL");
        bad(CROWDED, "addNode(0, 0)", x -> x.addNode(0, 0));
        bad(CROWDED, "addNode(10, 0)", x -> x.addNode(10, 0));
        bad(CROWDED, "addNode(1, -1)", x -> x.addNode(1, -1));
        bad(CROWDED, "addNode(1, 4)", x -> x.addNode(1, 4));
        CHECK.promise(4, "addEdge, BAD_VALUE before FULL");
        bad(CROWDED, "addEdge(12, 0, 0, 0, 1)", x -> x.addEdge(12, 0, 0, 0, 1));
        bad(CROWDED, "addEdge(0, 12, 0, 0, 1)", x -> x.addEdge(0, 12, 0, 0, 1));
        bad(CROWDED, "addEdge(4, 4, 0, 0, 1)", x -> x.addEdge(4, 4, 0, 0, 1));
        bad(CROWDED, "addEdge(0, 1, 8, 0, 1)", x -> x.addEdge(0, 1, 8, 0, 1));
        bad(CROWDED, "addEdge(0, 1, 0, -1, 1)", x -> x.addEdge(0, 1, 0, -1, 1));
        bad(CROWDED, "addEdge(0, 1, 0, 0, 0)", x -> x.addEdge(0, 1, 0, 0, 0));
        CHECK.promise(22, "crossingsOf, two bad edges");
        bad(DRAWN, "crossingsOf(3, 3)", x -> x.crossingsOf(3, 3));
        bad(DRAWN, "crossingsOf(-1, -1)", x -> x.crossingsOf(-1, -1));
    }

    private static void twoErrorsWithoutLayout() {
        CHECK.promise(17, "NOT_POSSIBLE before BAD_VALUE");
        for (int wrong : new int[] {-1, 99, MIN, MAX}) {
            not(PLAIN, "vertices(" + wrong + ")", x -> x.vertices(wrong));
            not(PLAIN, "vertex(" + wrong + ", 0)", x -> x.vertex(wrong, 0));
            not(PLAIN, "vertex(0, " + wrong + ")", x -> x.vertex(0, wrong));
            not(PLAIN, "placeOf(" + wrong + ")", x -> x.placeOf(wrong));
            not(PLAIN, "crossingsBelow(" + wrong + ")", x -> x.crossingsBelow(wrong));
            not(PLAIN, "crossingsOf(0, " + wrong + ")", x -> x.crossingsOf(0, wrong));
            not(PLAIN, "crossingsOf(" + wrong + ", 0)", x -> x.crossingsOf(wrong, 0));
            not(PLAIN, "sift(" + wrong + ")", x -> x.sift(wrong));
            not(PLAIN, "reduce(" + wrong + ")", x -> x.reduce(wrong));
            not(PLAIN, "exchange(" + wrong + ", 0)", x -> x.exchange(wrong, 0));
            not(PLAIN, "exchange(0, " + wrong + ")", x -> x.exchange(0, wrong));
            not(PLAIN, "left(" + wrong + ")", x -> x.left(wrong));
            not(PLAIN, "straight(" + wrong + ")", x -> x.straight(wrong));
            not(PLAIN, "border(" + wrong + ", 0)", x -> x.border(wrong, 0));
            not(PLAIN, "border(1, " + wrong + ")", x -> x.border(1, wrong));
            not(PLAIN, "intruders(" + wrong + ")", x -> x.intruders(wrong));
        }
        not(PLAIN, "crossingsOf(1, 1)", x -> x.crossingsOf(1, 1));
        not(PLAIN, "reduce(0)", x -> x.reduce(0));
        not(PLAIN, "reduce(7)", x -> x.reduce(7));
        // 3 is the last layer
        not(PLAIN, "crossingsBelow(3)", x -> x.crossingsBelow(3));
    }

    private static void twoErrorsOfTextAndSlots() {
        CHECK.promise(35, "append, BAD_VALUE before FULL");
        bad(CROWDED, "append(31)", x -> x.append(31));
        bad(CROWDED, "append(127)", x -> x.append(127));
        CHECK.promise(38, "read, NOT_POSSIBLE before FULL");
        State faulty = new State("crowded with a fault", () -> {
            LayeredDrawing x = crowded();
            write(x, "0>1;".repeat(24) + "0>1");
            return x;
        }, 12, 20, true, CROWDED.sizes, CROWDED.names);
        not(faulty, "read()", x -> x.read());
        CHECK.promise(40, "restore, BAD_VALUE before NOT_POSSIBLE");
        bad(EMPTY, "restore(2)", x -> x.restore(2));
        bad(EMPTY, "restore(-1)", x -> x.restore(-1));
    }

    private static void noneIsLast() {
        CHECK.promise(33, "border, NONE only if no error applies");
        for (int side = 0; side < 4; side++) {
            int some = side;
            refused(DRAWN, "border(2, " + side + ")", x -> x.border(2, some), NONE);
            refused(EMPTY_LAID_OUT, "border(3, " + side + ")", x -> x.border(3, some), NONE);
            refused(CROWDED, "border(3, " + side + ")", x -> x.border(3, some), NONE);
            not(PLAIN, "border(2, " + side + ")", x -> x.border(2, some));
            not(EMPTY, "border(1, " + side + ")", x -> x.border(1, some));
        }
        bad(DRAWN, "border(2, 4)", x -> x.border(2, 4));
        bad(DRAWN, "border(2, -1)", x -> x.border(2, -1));
        // a group 0 would have nodes, and 4 has none
        bad(DRAWN, "border(0, 0)", x -> x.border(0, 0));
        bad(DRAWN, "border(4, 0)", x -> x.border(4, 0));
        not(PLAIN, "border(2, 4)", x -> x.border(2, 4));
        CHECK.promise(34, "intruders, NONE only if no error applies");
        refused(DRAWN, "intruders(2)", x -> x.intruders(2), NONE);
        refused(EMPTY_LAID_OUT, "intruders(1)", x -> x.intruders(1), NONE);
        refused(CROWDED, "intruders(3)", x -> x.intruders(3), NONE);
        bad(DRAWN, "intruders(0)", x -> x.intruders(0));
        bad(DRAWN, "intruders(4)", x -> x.intruders(4));
        not(PLAIN, "intruders(2)", x -> x.intruders(2));
        not(EMPTY, "intruders(3)", x -> x.intruders(3));
    }
}
