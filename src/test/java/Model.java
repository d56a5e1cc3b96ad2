import java.util.ArrayList;
import java.util.Comparator;
import java.util.HashMap;
import java.util.HashSet;
import java.util.List;
import java.util.Map;
import java.util.Set;

/**
 * A second, slow reading of the document, written after its words and apart from LayeredDrawing:
 * everything is found anew from lists of names whenever it is asked for.
 */
final class Model {
    record Edge(int source, int target, int sourcePort, int targetPort, int least) { }

    record Part(int edge, int y, int upper, int upperPort, int lower, int lowerPort) { }

    record Kept(List<int[]> nodes, List<Edge> edges, List<List<Integer>> rows, Map<Integer, Integer> lefts) { }

    private List<int[]> nodes = new ArrayList<>();
    private List<Edge> edges = new ArrayList<>();
    private List<List<Integer>> rows = null;
    private Map<Integer, Integer> lefts = null;
    private String text = "";
    private final Kept[] slots = new Kept[2];

    // ---- what follows from the graph

    private boolean[] turned() {
        boolean[] turned = new boolean[edges.size()];
        Set<Integer> begun = new HashSet<>();
        Set<Integer> ended = new HashSet<>();
        for (int node = 0; node < nodes.size(); node++) {
            if (!begun.contains(node)) {
                visit(node, begun, ended, turned);
            }
        }
        return turned;
    }

    private void visit(int node, Set<Integer> begun, Set<Integer> ended, boolean[] turned) {
        begun.add(node);
        for (int e = 0; e < edges.size(); e++) {
            if (edges.get(e).source() != node) {
                continue;
            }
            int target = edges.get(e).target();
            if (!begun.contains(target)) {
                visit(target, begun, ended, turned);
            }
            if (begun.contains(target) && !ended.contains(target)) {
                turned[e] = true;
            }
        }
        ended.add(node);
    }

    private int[] uppers() {
        boolean[] turned = turned();
        int[] uppers = new int[edges.size()];
        for (int e = 0; e < uppers.length; e++) {
            uppers[e] = turned[e] ? edges.get(e).target() : edges.get(e).source();
        }
        return uppers;
    }

    private int[] lowers() {
        boolean[] turned = turned();
        int[] lowers = new int[edges.size()];
        for (int e = 0; e < lowers.length; e++) {
            lowers[e] = turned[e] ? edges.get(e).source() : edges.get(e).target();
        }
        return lowers;
    }

    private int[] layering = null;

    /**
     * From the lowest layering of all, moves sets of nodes down by one while that shortens the edges:
     * the first such set that keeps the least lengths has no smaller one in it, and the total length,
     * being submodular, makes this end in the lowest of the best layerings.
     */
    int[] layering() {
        if (layering != null) {
            return layering;
        }
        int n = nodes.size();
        int[] up = uppers();
        int[] low = lowers();
        int[] layer = new int[n];
        for (int pass = 0; pass < n; pass++) {
            for (int e = 0; e < up.length; e++) {
                layer[low[e]] = Math.max(layer[low[e]], layer[up[e]] + edges.get(e).least());
            }
        }
        while (true) {
            int set = shorteningSet(layer, up, low);
            if (set == 0) {
                layering = layer;
                return layer;
            }
            for (int node = 0; node < n; node++) {
                layer[node] += set >> node & 1;
            }
        }
    }

    private int shorteningSet(int[] layer, int[] up, int[] low) {
        for (int set = 1; set < 1 << layer.length; set++) {
            int gain = 0;
            boolean allowed = true;
            for (int e = 0; e < up.length && allowed; e++) {
                int change = (set >> low[e] & 1) - (set >> up[e] & 1);
                gain -= change;
                allowed = layer[low[e]] - layer[up[e]] + change >= edges.get(e).least();
            }
            if (allowed && gain > 0) {
                return set;
            }
        }
        return 0;
    }

    private List<Part> parts() {
        List<Part> parts = new ArrayList<>();
        int[] layer = layering();
        int[] up = uppers();
        int[] low = lowers();
        boolean[] turned = turned();
        for (int e = 0; e < up.length; e++) {
            Edge edge = edges.get(e);
            int upperPort = turned[e] ? edge.targetPort() : edge.sourcePort();
            int lowerPort = turned[e] ? edge.sourcePort() : edge.targetPort();
            int top = layer[up[e]];
            int bottom = layer[low[e]];
            for (int y = top; y < bottom; y++) {
                parts.add(new Part(e, y,
                    y == top ? up[e] : 100 + 40 * e + y, y == top ? upperPort : 0,
                    y + 1 == bottom ? low[e] : 100 + 40 * e + y + 1, y + 1 == bottom ? lowerPort : 0));
            }
        }
        return parts;
    }

    private void changed() {
        rows = null;
        lefts = null;
        layering = null;
    }

    // ---- the graph

    int clear() {
        int count = nodes.size();
        nodes = new ArrayList<>();
        edges = new ArrayList<>();
        changed();
        return count;
    }

    int addNode(int width, int group) {
        if (width < 1 || width > 9 || group < 0 || group > 3) {
            return -1;
        }
        if (nodes.size() == 12) {
            return -2;
        }
        nodes.add(new int[] {width, group});
        changed();
        return nodes.size() - 1;
    }

    private boolean isNode(int node) {
        return 0 <= node && node < nodes.size();
    }

    private boolean isEdge(int edge) {
        return 0 <= edge && edge < edges.size();
    }

    int addEdge(int source, int target, int sourcePort, int targetPort, int least) {
        if (!isNode(source) || !isNode(target) || source == target || sourcePort < 0 || sourcePort > 7
            || targetPort < 0 || targetPort > 7 || least < 1 || least > 3) {
            return -1;
        }
        if (edges.size() == 20) {
            return -2;
        }
        edges.add(new Edge(source, target, sourcePort, targetPort, least));
        changed();
        return edges.size() - 1;
    }

    int removeEdge() {
        if (edges.isEmpty()) {
            return -3;
        }
        edges.remove(edges.size() - 1);
        changed();
        return edges.size();
    }

    int setGroup(int node, int group) {
        if (!isNode(node) || group < 0 || group > 3) {
            return -1;
        }
        int before = nodes.get(node)[1];
        nodes.set(node, new int[] {nodes.get(node)[0], group});
        changed();
        return before;
    }

    int nodes() {
        return nodes.size();
    }

    int edges() {
        return edges.size();
    }

    int edge(int edge, int what) {
        if (!isEdge(edge) || what < 0 || what > 4) {
            return -1;
        }
        Edge found = edges.get(edge);
        return new int[] {found.source(), found.target(), found.sourcePort(), found.targetPort(), found.least()}[what];
    }

    // ---- directions and layers

    int reversed(int edge) {
        return isEdge(edge) ? (turned()[edge] ? 1 : 0) : -1;
    }

    int reversals() {
        int count = 0;
        for (boolean turned : turned()) {
            count += turned ? 1 : 0;
        }
        return count;
    }

    int layerOf(int node) {
        return isNode(node) ? layering()[node] : -1;
    }

    int lengthOf(int edge) {
        return isEdge(edge) ? layering()[lowers()[edge]] - layering()[uppers()[edge]] : -1;
    }

    int totalLength() {
        int sum = 0;
        for (int e = 0; e < edges.size(); e++) {
            sum += lengthOf(e);
        }
        return sum;
    }

    int layers() {
        int count = 0;
        for (int layer : layering()) {
            count = Math.max(count, layer + 1);
        }
        return count;
    }

    // ---- order

    private int groupOf(int name) {
        return name < 100 ? nodes.get(name)[1] : 0;
    }

    private int widthOf(int name) {
        return name < 100 ? nodes.get(name)[0] : 1;
    }

    private List<Integer> closed(List<Integer> row) {
        List<Integer> out = new ArrayList<>();
        for (int name : row) {
            if (out.contains(name)) {
                continue;
            }
            out.add(name);
            for (int other : row) {
                if (groupOf(name) != 0 && groupOf(other) == groupOf(name) && !out.contains(other)) {
                    out.add(other);
                }
            }
        }
        return out;
    }

    private boolean together(List<Integer> row) {
        return closed(row).equals(row);
    }

    int layOut() {
        if (nodes.size() + totalLength() - edges.size() > 60) {
            return -2;
        }
        rows = new ArrayList<>();
        Map<Integer, Set<Integer>> names = new HashMap<>();
        for (int y = 0; y < layers(); y++) {
            names.put(y, new HashSet<>());
        }
        for (int node = 0; node < nodes.size(); node++) {
            names.get(layerOf(node)).add(node);
        }
        for (Part part : parts()) {
            names.get(part.y()).add(part.upper());
        }
        int count = 0;
        for (int y = 0; y < layers(); y++) {
            List<Integer> row = new ArrayList<>(names.get(y));
            row.sort(Comparator.naturalOrder());
            rows.add(closed(row));
            count += row.size();
        }
        pack();
        return count;
    }

    private int rowOf(int name) {
        for (int y = 0; y < rows.size(); y++) {
            if (rows.get(y).contains(name)) {
                return y;
            }
        }
        return -1;
    }

    private int place(int name) {
        return rows.get(rowOf(name)).indexOf(name);
    }

    int vertices(int layer) {
        if (rows == null) {
            return -3;
        }
        return layer >= 0 && layer < rows.size() ? rows.get(layer).size() : -1;
    }

    int vertex(int layer, int place) {
        if (rows == null) {
            return -3;
        }
        if (layer < 0 || layer >= rows.size() || place < 0 || place >= rows.get(layer).size()) {
            return -1;
        }
        return rows.get(layer).get(place);
    }

    int placeOf(int name) {
        if (rows == null) {
            return -3;
        }
        return rowOf(name) < 0 ? -1 : place(name);
    }

    private int compare(int place, int port, int otherPlace, int otherPort) {
        return place != otherPlace ? Integer.compare(place, otherPlace) : Integer.compare(port, otherPort);
    }

    private boolean cross(Part one, Part other) {
        if (one.y() != other.y()) {
            return false;
        }
        int above = compare(place(one.upper()), one.upperPort(), place(other.upper()), other.upperPort());
        int below = compare(place(one.lower()), one.lowerPort(), place(other.lower()), other.lowerPort());
        return above < 0 && below > 0 || above > 0 && below < 0;
    }

    private int countCrossings(int layer) {
        List<Part> parts = parts();
        parts.removeIf(part -> layer >= 0 && part.y() != layer);
        int count = 0;
        for (int i = 0; i < parts.size(); i++) {
            for (int j = i + 1; j < parts.size(); j++) {
                count += cross(parts.get(i), parts.get(j)) ? 1 : 0;
            }
        }
        return count;
    }

    int crossingsBelow(int layer) {
        if (rows == null) {
            return -3;
        }
        return layer < 0 || layer >= rows.size() - 1 ? -1 : countCrossings(layer);
    }

    int crossings() {
        return rows == null ? -3 : countCrossings(-1);
    }

    int crossingsOf(int edge, int other) {
        if (rows == null) {
            return -3;
        }
        if (!isEdge(edge) || !isEdge(other) || edge == other) {
            return -1;
        }
        int count = 0;
        for (Part one : parts()) {
            for (Part two : parts()) {
                count += one.edge() == edge && two.edge() == other && cross(one, two) ? 1 : 0;
            }
        }
        return count;
    }

    private List<List<Integer>> copyOfRows() {
        List<List<Integer>> copy = new ArrayList<>();
        for (List<Integer> row : rows) {
            copy.add(new ArrayList<>(row));
        }
        return copy;
    }

    private void packUnless(List<List<Integer>> before) {
        if (!rows.equals(before)) {
            pack();
        }
    }

    int sweep(boolean down) {
        if (rows == null) {
            return -3;
        }
        List<List<Integer>> before = copyOfRows();
        makeSweep(down);
        packUnless(before);
        return crossings();
    }

    private void makeSweep(boolean down) {
        int last = rows.size() - 1;
        for (int i = 1; i <= last; i++) {
            int y = down ? i : last - i;
            Map<Integer, long[]> weights = new HashMap<>();
            for (int name : rows.get(y)) {
                weights.put(name, weight(name, y, down));
            }
            List<Integer> row = new ArrayList<>(rows.get(y));
            row.sort((a, b) -> Long.compare(weights.get(a)[0] * weights.get(b)[1], weights.get(b)[0] * weights.get(a)[1]));
            rows.set(y, closed(row));
        }
    }

    private long[] weight(int name, int y, boolean down) {
        long sum = 0;
        long count = 0;
        for (Part part : parts()) {
            if (down && part.lower() == name) {
                sum += 8 * place(part.upper()) + part.upperPort();
                count++;
            }
            if (!down && part.upper() == name) {
                sum += 8 * place(part.lower()) + part.lowerPort();
                count++;
            }
        }
        return count == 0 ? new long[] {8L * place(name), 1} : new long[] {sum, count};
    }

    int sift(int name) {
        if (rows == null) {
            return -3;
        }
        if (rowOf(name) < 0) {
            return -1;
        }
        List<List<Integer>> before = copyOfRows();
        makeSift(name);
        packUnless(before);
        return place(name);
    }

    private void makeSift(int name) {
        int y = rowOf(name);
        List<Integer> best = null;
        int fewest = 0;
        List<Integer> others = new ArrayList<>(rows.get(y));
        others.remove(Integer.valueOf(name));
        for (int place = 0; place <= others.size(); place++) {
            List<Integer> row = new ArrayList<>(others);
            row.add(place, name);
            if (!together(row)) {
                continue;
            }
            rows.set(y, row);
            int count = crossings();
            if (best == null || count < fewest) {
                best = row;
                fewest = count;
            }
        }
        rows.set(y, best);
    }

    int siftAll() {
        if (rows == null) {
            return -3;
        }
        List<List<Integer>> before = copyOfRows();
        makeSiftAll();
        packUnless(before);
        return crossings();
    }

    private void makeSiftAll() {
        for (int y = 0; y < rows.size(); y++) {
            List<Integer> names = new ArrayList<>(rows.get(y));
            names.sort(Comparator.naturalOrder());
            for (int name : names) {
                makeSift(name);
            }
        }
    }

    int reduce(int rounds) {
        if (rows == null) {
            return -3;
        }
        if (rounds < 1 || rounds > 6) {
            return -1;
        }
        List<List<Integer>> before = copyOfRows();
        List<List<List<Integer>>> orders = new ArrayList<>();
        List<Integer> counts = new ArrayList<>();
        orders.add(before);
        counts.add(crossings());
        for (int round = 0; round < rounds; round++) {
            makeSweep(true);
            makeSweep(false);
            makeSiftAll();
            orders.add(copyOfRows());
            counts.add(crossings());
        }
        int best = 0;
        for (int i = 1; i < counts.size(); i++) {
            best = counts.get(i) < counts.get(best) ? i : best;
        }
        rows = orders.get(best);
        rows = copyOfRows();
        packUnless(before);
        return crossings();
    }

    int exchange(int layer, int place) {
        if (rows == null) {
            return -3;
        }
        if (layer < 0 || layer >= rows.size() || place < 0 || place >= rows.get(layer).size() - 1) {
            return -1;
        }
        List<Integer> row = new ArrayList<>(rows.get(layer));
        row.add(place, row.remove(place + 1));
        if (!together(row)) {
            return -1;
        }
        rows.set(layer, row);
        pack();
        return crossings();
    }

    // ---- coordinates

    private void pack() {
        lefts = new HashMap<>();
        for (List<Integer> row : rows) {
            int x = 0;
            for (int name : row) {
                lefts.put(name, x);
                x += widthOf(name) + 1;
            }
        }
    }

    int align() {
        if (rows == null) {
            return -3;
        }
        List<Part> parts = parts();
        for (int y = 1; y < rows.size(); y++) {
            List<Integer> row = rows.get(y);
            for (int i = row.size() - 1; i >= 0; i--) {
                int name = row.get(i);
                List<Integer> above = new ArrayList<>();
                for (Part part : parts) {
                    if (part.lower() == name) {
                        above.add(lefts.get(part.upper()));
                    }
                }
                above.sort(Comparator.naturalOrder());
                // one unit at a time, as long as it may and wants to
                while (!above.isEmpty() && lefts.get(name) < above.get((above.size() - 1) / 2)
                    && (i == row.size() - 1 || lefts.get(name) + widthOf(name) + 1 < lefts.get(row.get(i + 1)))) {
                    lefts.put(name, lefts.get(name) + 1);
                }
            }
        }
        return width();
    }

    int left(int name) {
        if (rows == null) {
            return -3;
        }
        return lefts.getOrDefault(name, -1);
    }

    int width() {
        if (rows == null) {
            return -3;
        }
        int width = 0;
        for (int name : lefts.keySet()) {
            width = Math.max(width, lefts.get(name) + widthOf(name));
        }
        return width;
    }

    int spread() {
        if (rows == null) {
            return -3;
        }
        int sum = 0;
        for (Part part : parts()) {
            sum += Math.abs(lefts.get(part.upper()) - lefts.get(part.lower()));
        }
        return sum;
    }

    int straight(int edge) {
        if (rows == null) {
            return -3;
        }
        if (!isEdge(edge)) {
            return -1;
        }
        int count = 0;
        for (Part part : parts()) {
            boolean straight = lefts.get(part.upper()).equals(lefts.get(part.lower()));
            count += part.edge() == edge && straight ? 1 : 0;
        }
        return count;
    }

    int border(int group, int side) {
        if (rows == null) {
            return -3;
        }
        if (group < 1 || group > 3 || side < 0 || side > 3) {
            return -1;
        }
        List<Integer> values = new ArrayList<>();
        for (int node = 0; node < nodes.size(); node++) {
            if (groupOf(node) == group) {
                values.add(side == 0 ? lefts.get(node) : side == 1 ? lefts.get(node) + widthOf(node) : layerOf(node));
            }
        }
        values.sort(Comparator.naturalOrder());
        return values.isEmpty() ? -4 : side % 2 == 0 ? values.get(0) : values.get(values.size() - 1);
    }

    int intruders(int group) {
        if (rows == null) {
            return -3;
        }
        if (group < 1 || group > 3) {
            return -1;
        }
        if (border(group, 0) == -4) {
            return -4;
        }
        int count = 0;
        for (int node = 0; node < nodes.size(); node++) {
            boolean covers = false;
            for (int unit = border(group, 0); unit < border(group, 1); unit++) {
                covers |= lefts.get(node) <= unit && unit < lefts.get(node) + widthOf(node);
            }
            boolean inLayers = border(group, 2) <= layerOf(node) && layerOf(node) <= border(group, 3);
            count += covers && inLayers && groupOf(node) != group ? 1 : 0;
        }
        return count;
    }

    // ---- texts

    int append(int character) {
        if (character < 32 || character > 126) {
            return -1;
        }
        if (text.length() == 100) {
            return -2;
        }
        text += (char) character;
        return text.length();
    }

    int clearText() {
        int length = text.length();
        text = "";
        return length;
    }

    int faultPosition() {
        return scan(new ArrayList<>());
    }

    /** A machine of states, a sign at a time; it answers the fault position or -4. */
    private int scan(List<Edge> found) {
        // 0 source, 1 after source, 2 its port, 3 after that, 4 target, 5 after target, 6 its port,
        // 7 after that, 8 least length, 9 after that
        int state = 0;
        int[] edge = {0, 0, 0, 0, 1};
        int at = 0;
        while (at < text.length()) {
            char sign = text.charAt(at);
            boolean digit = sign >= '0' && sign <= '9';
            if ((state == 0 || state == 4) && digit) {
                int end = at + 1;
                boolean more = end < text.length() && text.charAt(end) >= '0' && text.charAt(end) <= '9';
                end += sign != '0' && more ? 1 : 0;
                int number = Integer.parseInt(text.substring(at, end));
                if (number >= nodes.size() || state == 4 && number == edge[0]) {
                    return at;
                }
                edge[state == 0 ? 0 : 1] = number;
                at = end - 1;
                state++;
            } else if ((state == 1 || state == 5) && sign == '.') {
                state++;
            } else if ((state == 2 || state == 6) && sign >= '0' && sign <= '7') {
                edge[state == 2 ? 2 : 3] = sign - '0';
                state++;
            } else if ((state == 1 || state == 3) && sign == '>') {
                state = 4;
            } else if ((state == 5 || state == 7) && sign == '=') {
                state = 8;
            } else if (state == 8 && sign >= '1' && sign <= '3') {
                edge[4] = sign - '0';
                state = 9;
            } else if ((state == 5 || state == 7 || state == 9) && sign == ';') {
                found.add(new Edge(edge[0], edge[1], edge[2], edge[3], edge[4]));
                edge = new int[] {0, 0, 0, 0, 1};
                state = 0;
            } else {
                return at;
            }
            at++;
        }
        return state == 0 ? -4 : at;
    }

    int read() {
        List<Edge> found = new ArrayList<>();
        if (scan(found) != -4) {
            return -3;
        }
        if (edges.size() + found.size() > 20) {
            return -2;
        }
        edges.addAll(found);
        changed();
        return found.size();
    }

    // ---- slots, checksum

    int keep(int slot) {
        if (slot < 0 || slot > 1) {
            return -1;
        }
        slots[slot] = new Kept(new ArrayList<>(nodes), new ArrayList<>(edges),
            rows == null ? null : copyOfRows(), lefts == null ? null : new HashMap<>(lefts));
        return nodes.size();
    }

    int restore(int slot) {
        if (slot < 0 || slot > 1) {
            return -1;
        }
        Kept kept = slots[slot];
        if (kept == null) {
            return -3;
        }
        changed();
        nodes = new ArrayList<>(kept.nodes());
        edges = new ArrayList<>(kept.edges());
        if (kept.rows() != null) {
            rows = kept.rows();
            rows = copyOfRows();
            lefts = new HashMap<>(kept.lefts());
        }
        return nodes.size();
    }

    long checksum() {
        List<Integer> values = new ArrayList<>();
        values.add(nodes());
        values.add(edges());
        for (int e = 0; e < edges(); e++) {
            values.add(reversed(e));
            values.add(lengthOf(e));
        }
        for (int node = 0; node < nodes(); node++) {
            values.add(layerOf(node));
        }
        values.add(layers());
        values.add(totalLength());
        if (rows != null) {
            values.add(crossings());
            values.add(width());
            values.add(spread());
            for (List<Integer> row : rows) {
                for (int name : row) {
                    values.add(name);
                    values.add(lefts.get(name));
                }
            }
        }
        long h = 53;
        for (int value : values) {
            h = 31 * h + value;
        }
        return h;
    }
}
