/** What the tests of single promises share: the numbers of the errors, and steps that they take often. */
abstract class Steps {
    static final int BAD = LayeredDrawing.BAD_VALUE;
    static final int FULL = LayeredDrawing.FULL;
    static final int NOT = LayeredDrawing.NOT_POSSIBLE;
    static final int NONE = LayeredDrawing.NONE;
    static final int MIN = Integer.MIN_VALUE;
    static final int MAX = Integer.MAX_VALUE;

    static final Check CHECK = new Check();

    static void due(String call, long got, long want) {
        CHECK.due(call, got, want);
    }

    /** A drawing with as many nodes of width 1 and without a group. */
    static LayeredDrawing withNodes(int count) {
        LayeredDrawing x = new LayeredDrawing();
        for (int node = 0; node < count; node++) {
            due("addNode(1, 0)", x.addNode(1, 0), node);
        }
        return x;
    }

    static void connect(LayeredDrawing x, int... ends) {
        for (int i = 0; i + 1 < ends.length; i += 2) {
            int number = x.edges();
            due("addEdge(" + ends[i] + ", " + ends[i + 1] + ", 0, 0, 1)", x.addEdge(ends[i], ends[i + 1], 0, 0, 1), number);
        }
    }

    static void write(LayeredDrawing x, String text) {
        x.clearText();
        for (int i = 0; i < text.length(); i++) {
            due("append(" + (int) text.charAt(i) + ")", x.append(text.charAt(i)), i + 1);
        }
    }

    static void fault(LayeredDrawing x, String text, int want) {
        write(x, text);
        due("faultPosition() of " + text, x.faultPosition(), want);
    }

    static void row(LayeredDrawing x, int layer, int... names) {
        due("vertices(" + layer + ")", x.vertices(layer), names.length);
        for (int place = 0; place < names.length; place++) {
            due("vertex(" + layer + ", " + place + ")", x.vertex(layer, place), names[place]);
            due("placeOf(" + names[place] + ")", x.placeOf(names[place]), place);
        }
    }

    static void lefts(LayeredDrawing x, int... namesAndLefts) {
        for (int i = 0; i < namesAndLefts.length; i += 2) {
            due("left(" + namesAndLefts[i] + ")", x.left(namesAndLefts[i]), namesAndLefts[i + 1]);
        }
    }

    /** Nodes 0 and 1 above 2 and 3, with edges 0 to 3 and 1 to 2 that cross, laid out. */
    static LayeredDrawing crossed() {
        LayeredDrawing x = withNodes(4);
        connect(x, 0, 3, 1, 2);
        due("layOut()", x.layOut(), 4);
        return x;
    }

    /** One below and one above a range, and the extreme ints. */
    static int[] outside(int lowest, int highest) {
        return new int[] {lowest - 1, highest + 1, MIN, MAX};
    }
}
