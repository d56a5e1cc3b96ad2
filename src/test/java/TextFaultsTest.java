import java.util.regex.Matcher;
import java.util.regex.Pattern;

/**
 * The fault position: the sentences of the document by hand, and very many texts against the grammar as a pattern,
 * of which Java tells whether a text could still become one of its texts.
 */
public final class TextFaultsTest extends Steps {
    private static final Pattern TEXT =
        Pattern.compile("((0|[1-9][0-9]?)(\\.[0-7])?>(0|[1-9][0-9]?)(\\.[0-7])?(=[1-3])?;)*");
    private static final char[] SIGNS = {'0', '1', '2', '8', '.', '>', '=', ';'};
    private static final int LONGEST = 6;
    /** So many texts of at most 6 signs are asked of one drawing that it gets at most 512 calls. */
    private static final int TEXTS_OF_A_DRAWING = 60;

    private final int nodes;
    private LayeredDrawing drawing = null;
    private int texts = TEXTS_OF_A_DRAWING;

    private TextFaultsTest(int nodes) {
        this.nodes = nodes;
    }

    public static void main(String[] args) {
        endsTooEarly();
        emptyText();
        nothingFollows();
        numbersOfNodes();
        numbersWithTwoDigits();
        targetIsSource();
        ports();
        leastLengths();
        firstFaultCounts();
        aHundredSigns();
        for (int nodes : new int[] {0, 1, 2, 11, 12}) {
            new TextFaultsTest(nodes).allTexts("", LONGEST - 1);
        }
        new TextFaultsTest(12).allTexts("", LONGEST);
        everySignEverywhere();
        CHECK.end();
    }

    // ---- by hand

    private static void endsTooEarly() {
        CHECK.promise(37, "the length of the text if it ends too early");
        LayeredDrawing x = withNodes(12);
        for (String whole : new String[] {"10.7>11.6=3;", "0>1;", "2.0>3;", "4>5.1;", "6>7=2;", "11>0;", "9>10;"}) {
            for (int length = 1; length < whole.length(); length++) {
                fault(x, whole.substring(0, length), length);
            }
            fault(x, whole, NONE);
            x = withNodes(12);
            for (int length = 1; length < whole.length(); length++) {
                fault(x, "3>2;" + whole.substring(0, length), 4 + length);
            }
            x = withNodes(12);
        }
    }

    private static void emptyText() {
        CHECK.promise(37, "edges, perhaps none");
        LayeredDrawing x = new LayeredDrawing();
        due("faultPosition() of a new one", x.faultPosition(), NONE);
        x.append('?');
        due("faultPosition()", x.faultPosition(), 0);
        x.clearText();
        due("faultPosition() of an empty text", x.faultPosition(), NONE);
    }

    private static void nothingFollows() {
        CHECK.promise(37, "the first character that cannot follow");
        LayeredDrawing x = withNodes(12);
        fault(x, ";", 0);
        fault(x, " ", 0);
        fault(x, ">", 0);
        fault(x, ".1>2;", 0);
        fault(x, "1;", 1);
        fault(x, "1=2>3;", 1);
        fault(x, "1.1;", 3);
        fault(x, "1.1=", 3);
        fault(x, "1.1.", 3);
        fault(x, "1>;", 2);
        fault(x, "1>>", 2);
        fault(x, "1>.", 2);
        fault(x, "1>2>", 3);
        fault(x, "1>2.3>", 5);
        fault(x, "1>2.3.", 5);
        fault(x, "1>2=3>", 5);
        fault(x, "1>2=3.3;", 5);
        fault(x, "1>2=3=", 5);
        fault(x, "1>2=33;", 5);
        fault(x, "1>2;;", 4);
        fault(x, "1>2; ", 4);
        fault(x, "1>2,", 3);
        fault(x, "-1>2;", 0);
        fault(x, "1>-2;", 2);
        fault(x, "1>2.-1;", 4);
    }

    private static void numbersOfNodes() {
        CHECK.promise(37, "a number that is not that of a node is a fault at its first digit");
        for (int nodes = 0; nodes <= 12; nodes++) {
            LayeredDrawing x = withNodes(nodes);
            // the first number of no node as source and as target, and one more
            fault(x, nodes + ">0;", 0);
            fault(x, (nodes + 1) + ">0;", 0);
            fault(x, "0>" + nodes + ";", nodes == 0 ? 0 : 2);
            fault(x, "0>" + (nodes + 1) + ";", nodes == 0 ? 0 : 2);
            fault(x, "99", 0);
            fault(x, "9", nodes > 9 ? 1 : 0);
            if (nodes > 1) {
                fault(x, "0>" + (nodes - 1) + ";", NONE);
                fault(x, (nodes - 1) + ">0;", NONE);
                fault(x, "0>1;1>0;" + nodes, 8);
                fault(x, "0>1;1>0;1>" + nodes, 10);
            }
        }
    }

    private static void numbersWithTwoDigits() {
        CHECK.promise(37, "one or two digits that do not begin with 0, except 0 itself");
        LayeredDrawing x = withNodes(12);
        fault(x, "00", 1);
        fault(x, "01>2;", 1);
        fault(x, "010>2;", 1);
        fault(x, "1>00;", 3);
        fault(x, "1>02;", 3);
        fault(x, "100>1;", 2);
        fault(x, "111", 2);
        fault(x, "0>100;", 4);
        fault(x, "0>1.0;", NONE);
        fault(x, "10>0;", NONE);
        fault(x, "10>11;", NONE);
        // with fewer nodes the two digits are the number of no node, and that comes first
        LayeredDrawing y = withNodes(10);
        fault(y, "100>1;", 0);
        fault(y, "0>100;", 2);
        fault(y, "10", 0);
        fault(y, "1", 1);
        // without nodes even 0 is none
        LayeredDrawing z = new LayeredDrawing();
        fault(z, "0", 0);
        fault(z, "00", 0);
    }

    private static void targetIsSource() {
        CHECK.promise(37, "a target that is the source is a fault at its first digit");
        for (int node = 0; node < 12; node++) {
            LayeredDrawing x = withNodes(12);
            int at = ("" + node).length() + 1;
            fault(x, node + ">" + node + ";", at);
            fault(x, node + ".0>" + node + ".1;", at + 2);
            fault(x, "2>3;" + node + ">" + node + ";", 4 + at);
            fault(x, node + ">" + node, at);
        }
        LayeredDrawing x = withNodes(12);
        // the target of the edge before, or its source, is no fault
        fault(x, "0>1;1>0;0>1;", NONE);
        fault(x, "1>10;1>11;10>1;11>1;", NONE);
        // a drawing whose only node is 0 has no edge
        fault(withNodes(1), "0>0;", 2);
    }

    private static void ports() {
        CHECK.promise(37, "a point and a digit 0 to 7");
        for (char sign = 32; sign < 127; sign++) {
            LayeredDrawing x = withNodes(12);
            boolean port = sign >= '0' && sign <= '7';
            fault(x, "1." + sign + ">2;", port ? NONE : 2);
            fault(x, "1>2." + sign + ";", port ? NONE : 4);
            fault(x, "1." + sign, port ? 3 : 2);
            fault(x, "1>2." + sign, port ? 5 : 4);
        }
    }

    private static void leastLengths() {
        CHECK.promise(37, "an equals sign and a digit 1 to 3");
        for (char sign = 32; sign < 127; sign++) {
            LayeredDrawing x = withNodes(12);
            boolean least = sign >= '1' && sign <= '3';
            fault(x, "1>2=" + sign + ";", least ? NONE : 4);
            fault(x, "1>2.0=" + sign + ";", least ? NONE : 6);
            fault(x, "1>2=" + sign, least ? 5 : 4);
        }
    }

    private static void firstFaultCounts() {
        CHECK.promise(37, "of several faults the first one");
        LayeredDrawing x = withNodes(5);
        fault(x, "7>7.9=4", 0);
        fault(x, "4>7.9=4", 2);
        fault(x, "4.9>4;", 2);
        fault(x, "4>4.9;", 2);
        fault(x, "4>3.9=4", 4);
        fault(x, "4>3.7=4", 6);
        fault(x, "4>3;9>3;4>4;", 4);
        fault(x, "4>3;?9>3;", 4);
        fault(x, "43>?", 0);
    }

    private static void aHundredSigns() {
        CHECK.promise(37, "a text of 100 characters");
        LayeredDrawing x = withNodes(12);
        fault(x, "0>1;".repeat(25), NONE);
        x = withNodes(12);
        fault(x, "0>1;".repeat(24) + "0>1.", 100);
        x = withNodes(12);
        fault(x, "0>1;".repeat(24) + "0>1 ", 99);
        due("append(59)", x.append(';'), FULL);
        due("faultPosition()", x.faultPosition(), 99);
        x = withNodes(12);
        fault(x, "0>1;".repeat(24) + "0>10", 100);
        due("append(59)", x.append(';'), FULL);
        due("faultPosition()", x.faultPosition(), 100);
        x = withNodes(12);
        fault(x, "0>1;".repeat(24) + "0>12", 98);
    }

    // ---- against the pattern

    private void allTexts(String text, int signsLeft) {
        compare(text);
        for (int i = 0; i < SIGNS.length && signsLeft > 0; i++) {
            allTexts(text + SIGNS[i], signsLeft - 1);
        }
    }

    private void compare(String text) {
        if (texts >= TEXTS_OF_A_DRAWING) {
            drawing = withNodes(nodes);
            texts = 0;
        }
        texts++;
        fault(drawing, text, faultOf(text, nodes));
    }

    /** Each sign at each place of some texts, in place of the sign there and before it. */
    private static void everySignEverywhere() {
        for (String whole : new String[] {"10.7>11.6=3;2>0;", "1>2=1;0.0>11;", "9>8.5;5>6.1=2;"}) {
            for (int at = 0; at <= whole.length(); at++) {
                for (char sign = 32; sign < 127; sign++) {
                    LayeredDrawing x = withNodes(12);
                    String before = whole.substring(0, at) + sign;
                    String more = before + whole.substring(at);
                    fault(x, more, faultOf(more, 12));
                    String other = before + whole.substring(Math.min(at + 1, whole.length()));
                    fault(x, other, faultOf(other, 12));
                }
            }
        }
    }

    private static boolean canGoOn(String text) {
        Matcher matcher = TEXT.matcher(text);
        return matcher.matches() || matcher.hitEnd();
    }

    private static int faultOf(String text, int nodes) {
        int bySigns = text.length();
        while (!canGoOn(text.substring(0, bySigns))) {
            bySigns--;
        }
        boolean whole = bySigns == text.length() && TEXT.matcher(text).matches();
        int source = -1;
        for (int at = 0; at < bySigns; at++) {
            boolean target = at > 0 && text.charAt(at - 1) == '>';
            if (at == 0 || target || text.charAt(at - 1) == ';') {
                int number = numberAt(text, at, bySigns);
                if (number >= nodes || target && number == source) {
                    return at;
                }
                source = number;
            }
        }
        return whole ? NONE : bySigns;
    }

    private static int numberAt(String text, int at, int end) {
        boolean two = at + 1 < end && Character.isDigit(text.charAt(at + 1));
        return Integer.parseInt(text.substring(at, two ? at + 2 : at + 1));
    }
}
