import java.io.IOException;
import java.lang.reflect.Constructor;
import java.lang.reflect.Field;
import java.lang.reflect.Method;
import java.lang.reflect.Modifier;
import java.nio.file.Files;
import java.nio.file.Path;
import java.util.Set;
import java.util.TreeSet;

/** The public face of the class is the one of the document, and there is no other. Runs in the root of the project. */
public final class FaceTest {
    private static final Path DOCUMENT = Path.of("../shared/DOC.md");
    private static final Path PROGRAM = Path.of("src/main/java/LayeredDrawing.java");
    private static final String[] METHODS = {
        "int clear()", "int addNode(int int)", "int addEdge(int int int int int)", "int removeEdge()",
        "int setGroup(int int)", "int nodes()", "int edges()", "int edge(int int)", "int reversed(int)",
        "int reversals()", "int layerOf(int)", "int lengthOf(int)", "int totalLength()", "int layers()",
        "int layOut()", "int vertices(int)", "int vertex(int int)", "int placeOf(int)", "int crossingsBelow(int)",
        "int crossings()", "int crossingsOf(int int)", "int sweep(boolean)", "int sift(int)", "int siftAll()",
        "int reduce(int)", "int exchange(int int)", "int align()", "int left(int)", "int width()", "int spread()",
        "int straight(int)", "int border(int int)", "int intruders(int)", "int append(int)", "int clearText()",
        "int faultPosition()", "int read()", "int keep(int)", "int restore(int)", "long checksum()"};

    public static void main(String[] args) throws IOException {
        Check check = new Check();
        check.promise(0, "the face");
        check.holds("public final", LayeredDrawing.class.getModifiers() == (Modifier.PUBLIC | Modifier.FINAL));
        Set<String> names = new TreeSet<>();
        Set<String> found = new TreeSet<>();
        for (Method method : LayeredDrawing.class.getDeclaredMethods()) {
            if (!Modifier.isPrivate(method.getModifiers()) && !method.isSynthetic()) {
                check.holds(method + " is public alone", method.getModifiers() == Modifier.PUBLIC);
                found.add(face(method));
                names.add(method.getName());
            }
        }
        check.holds("the methods are those of the document", found.equals(new TreeSet<>(Set.of(METHODS))));
        for (Class<?> inside : LayeredDrawing.class.getDeclaredClasses()) {
            check.holds(inside + " is static", Modifier.isStatic(inside.getModifiers()));
            for (Method method : inside.getDeclaredMethods()) {
                check.holds(method + " has a name of its own", !names.contains(method.getName()));
            }
        }
        for (Method method : LayeredDrawing.class.getDeclaredMethods()) {
            boolean hidden = Modifier.isPrivate(method.getModifiers());
            check.holds(method + " has a name of its own", !hidden || !names.contains(method.getName()));
        }
        checkFields(check);
        checkDocument(check);
        Constructor<?>[] constructors = LayeredDrawing.class.getDeclaredConstructors();
        check.due("constructors", constructors.length, 1);
        check.holds("public constructor", Modifier.isPublic(constructors[0].getModifiers()));
        check.due("its parameters", constructors[0].getParameterCount(), 0);
        check.end();
    }

    /** Each line of the document's face stands in the class, with the names of its parameters. */
    private static void checkDocument(Check check) throws IOException {
        String document = Files.readString(DOCUMENT);
        String program = Files.readString(PROGRAM);
        int from = document.indexOf("```java", document.indexOf("## The public face"));
        String face = document.substring(from, document.indexOf("```", from + 1));
        int lines = 0;
        for (String line : face.split("\\R")) {
            if (line.startsWith("    public ")) {
                String written = line.contains(" = ") ? line : line.replace(";", " {");
                check.holds(line.trim() + " stands in the class", program.contains("\n" + written + "\n"));
                lines++;
            }
        }
        // the constants, the constructor and the methods
        check.due("lines of the face", lines, 4 + 1 + METHODS.length);
    }

    private static void checkFields(Check check) {
        Set<String> constants = new TreeSet<>();
        for (Field field : LayeredDrawing.class.getDeclaredFields()) {
            if (!Modifier.isPrivate(field.getModifiers())) {
                constants.add(field.getName());
                check.due(field + "", field.getModifiers(), Modifier.PUBLIC | Modifier.STATIC | Modifier.FINAL);
            }
            check.holds(field + " is no changing static", !Modifier.isStatic(field.getModifiers())
                || Modifier.isFinal(field.getModifiers()));
        }
        check.holds("the constants are those of the document",
            constants.equals(Set.of("BAD_VALUE", "FULL", "NOT_POSSIBLE", "NONE")));
    }

    private static String face(Method method) {
        StringBuilder text = new StringBuilder(method.getReturnType() + " " + method.getName() + "(");
        for (Class<?> type : method.getParameterTypes()) {
            text.append(text.charAt(text.length() - 1) == '(' ? "" : " ").append(type);
        }
        return text.append(')').toString();
    }
}
