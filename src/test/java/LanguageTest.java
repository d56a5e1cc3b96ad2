import java.io.IOException;
import java.lang.reflect.Field;
import java.lang.reflect.Method;
import java.lang.reflect.Modifier;
import java.nio.file.Files;
import java.nio.file.Path;
import java.util.ArrayList;
import java.util.List;
import java.util.Set;
import java.util.regex.Matcher;
import java.util.regex.Pattern;

/** Those rules of LANGUAGE.md that the text of the class shows. Runs in the root of the project. */
public final class LanguageTest {
    private static final Path PROGRAM = Path.of("src/main/java/LayeredDrawing.java");
    private static final int MAX_CLASSES = 12;
    private static final int MAX_FIELDS = 20;
    private static final int MAX_PARAMETERS = 7;
    private static final int MAX_LINES = 60;

    private static final Set<String> LIBRARY = Set.of("Math.max", "Math.min", "Math.abs", "System.arraycopy",
        "Arrays.fill");

    private static final String[] FORBIDDEN = {"throw", "throws", "try", "catch", "synchronized", "assert", "package",
        "instanceof", "strictfp", "volatile", "transient", "native", "Object", "var", "->", "::", "\""};

    public static void main(String[] args) throws IOException {
        Check check = new Check();
        check.promise(0, "the language");
        String whole = Files.readString(PROGRAM);
        for (int i = 0; i < whole.length(); i++) {
            check.holds("a sign from 1 to 127 at " + i, whole.charAt(i) > 0 && whole.charAt(i) < 128);
        }
        String code = whole.replaceAll("(?s)/\\*.*?\\*/", "").replaceAll("//[^\n]*", "");
        checkWords(check, code);
        checkLibrary(check, code);
        checkLengths(check, whole);
        checkClasses(check);
        check.end();
    }

    private static void checkWords(Check check, String code) {
        for (String word : FORBIDDEN) {
            String edge = Character.isLetter(word.charAt(0)) ? "\\b" : "";
            check.holds("no " + word, !Pattern.compile(edge + Pattern.quote(word) + edge).matcher(code).find());
        }
        Matcher loops = Pattern.compile("\\bwhile\\b|for \\(;|; ;").matcher(code);
        check.holds("loops count against a bound", !loops.find());
    }

    private static void checkLibrary(Check check, String code) {
        Matcher imports = Pattern.compile("import ([^;]*);").matcher(code);
        while (imports.find()) {
            check.holds("import " + imports.group(1), imports.group(1).equals("java.util.Arrays"));
        }
        Matcher calls = Pattern.compile("\\b([A-Z][a-z]\\w*\\.\\w+)").matcher(code.replaceAll("import [^;]*;", ""));
        while (calls.find()) {
            check.holds(calls.group(1) + " is allowed", LIBRARY.contains(calls.group(1)));
        }
        // the constructors alone make objects and arrays
        Matcher made = Pattern.compile("(?m)^(.*)\\bnew\\b.*$").matcher(code);
        while (made.find()) {
            boolean field = made.group(1).matches(" {8}(private )?final (int|char|boolean|Graph)\\[?]? \\w+ = ");
            boolean constructor = made.group(1).matches(" {8,12}(graph|layering|order|coordinates|text|slots(\\[slot])?) = ");
            check.holds("made in a constructor: " + made.group().trim(), field || constructor);
        }
    }

    /** A method begins with a line that ends with a brace behind a parenthesis, and ends at the same indent. */
    private static void checkLengths(Check check, String whole) {
        String[] lines = whole.split("\n");
        Pattern head = Pattern.compile("( {4}| {8})(private |public |static )*\\w+(\\[])?( \\w+)?\\(.*\\) \\{");
        int methods = 0;
        for (int i = 0; i < lines.length; i++) {
            Matcher matcher = head.matcher(lines[i]);
            if (!matcher.matches() || lines[i].trim().matches("(if|for|switch|return)\\b.*")) {
                continue;
            }
            methods++;
            int end = i;
            while (end < lines.length && !lines[end].equals(matcher.group(1) + "}")) {
                end++;
            }
            check.holds("short: " + lines[i].trim(), end - i < MAX_LINES);
        }
        check.holds("methods were found: " + methods, methods > 100);
    }

    private static void checkClasses(Check check) {
        List<Class<?>> classes = new ArrayList<>(List.of(LayeredDrawing.class.getDeclaredClasses()));
        classes.add(LayeredDrawing.class);
        check.holds("few classes", classes.size() <= MAX_CLASSES);
        for (Class<?> one : classes) {
            int fields = 0;
            for (Field field : one.getDeclaredFields()) {
                boolean fixed = Modifier.isStatic(field.getModifiers());
                check.holds(field + " is a constant", !fixed || Modifier.isFinal(field.getModifiers()));
                fields += fixed ? 0 : 1;
            }
            check.holds("few fields in " + one, fields <= MAX_FIELDS);
            for (Method method : one.getDeclaredMethods()) {
                check.holds("few parameters: " + method, method.getParameterCount() <= MAX_PARAMETERS);
            }
        }
    }
}
