import java.io.IOException;
import java.lang.reflect.Executable;
import java.lang.reflect.Field;
import java.lang.reflect.Method;
import java.lang.reflect.Modifier;
import java.nio.charset.StandardCharsets;
import java.nio.file.Files;
import java.nio.file.Path;
import java.util.ArrayList;
import java.util.List;
import java.util.Map;
import java.util.Set;
import java.util.TreeMap;
import java.util.regex.Matcher;
import java.util.regex.Pattern;

/** The rules of LANGUAGE.md that can be seen in the source text or by reflection. */
public final class LanguageTest {
    private static final Set<String> IMPORTS = Set.of("java.util.ArrayList", "java.util.Arrays", "java.util.Iterator",
            "java.util.List", "java.util.NoSuchElementException");
    private static final Set<String> EXCEPTIONS = Set.of("IllegalStateException", "IllegalArgumentException",
            "IndexOutOfBoundsException", "ArithmeticException", "UnsupportedOperationException",
            "NoSuchElementException", "RuntimeException");
    private static final Set<Class<?>> CONSTANTS = Set.of(int.class, long.class, boolean.class, char.class,
            String.class, int[].class, long[].class, char[].class, byte[].class);
    private static final int MOST_DEPTH = 8;
    /** A word must follow the indent at once, or the body would be read to the end of its class. */
    private static final Pattern METHOD = Pattern.compile(
            "(?ms)^( {4}| {8})(?=\\w)[\\w\\[\\] ]*?(\\w+)\\([^;{]*\\{(.*?)^\\1\\}");
    private static final Pattern CALL = Pattern.compile("\\b(?!(?:if|for|while|switch|return)\\b)(\\w+)\\(");
    private static final List<String> BANNED = List.of("->", "::", "\\bfinally\\b", "\\bsynchronized\\b",
            "\\bassert\\b", "\\btry\\s*\\(", "\\bThread\\b", "\\bRandom\\b", "Exact\\(", "\\bObject\\b", "\\bprotected\\b",
            "\\bStrictMath\\b", "\\bnative\\b", "\\bvolatile\\b", "\\bgetMessage\\b", "\\btoString\\b", "\\bhashCode\\b",
            "static\\s*\\{", "\\bSystem\\.(?!arraycopy\\()", "\\bArrays\\.(?!fill\\(|copyOf\\(|copyOfRange\\()",
            "\\bMath\\.(?!min\\(|max\\(|abs\\(|floorDiv\\(|floorMod\\()", "^\\s*package\\b", "\"\\s*\\+|\\+\\s*\"");

    public static void main(String[] args) throws IOException {
        Check.part("language");
        Path source = Path.of(System.getProperty("project.root", "."), "src/main/java/TensorForge.java");
        String text = Files.readString(source, StandardCharsets.UTF_8);
        Check.holds("rule 3: characters 0 to 255", text.chars().allMatch(c -> c < 256));
        String code = withoutComments(text);
        for (String banned : BANNED) {
            Matcher matcher = Pattern.compile(banned, Pattern.MULTILINE).matcher(code);
            Check.holds("nothing like " + banned, !matcher.find());
        }
        checkImportsAndThrows(code);
        checkMethodLengths(code);
        checkCallDepth(code);
        List<Class<?>> classes = new ArrayList<>(List.of(TensorForge.class.getDeclaredClasses()));
        classes.add(TensorForge.class);
        Check.holds("rule 11: some twelve classes", classes.size() <= 12);
        for (Class<?> one : classes) {
            checkClass(one);
        }
        Check.end();
    }

    private static String withoutComments(String text) {
        return text.replaceAll("(?s)/\\*.*?\\*/", "").replaceAll("//[^\n]*", "");
    }

    private static void checkImportsAndThrows(String code) {
        Matcher imports = Pattern.compile("import\\s+([\\w.*]+);").matcher(code);
        while (imports.find()) {
            Check.holds("rule 4: import " + imports.group(1), IMPORTS.contains(imports.group(1)));
        }
        Matcher thrown = Pattern.compile("\\bthrow\\b(?!s)([^;]*);").matcher(code);
        while (thrown.find()) {
            Matcher form = Pattern.compile("\\s+new (\\w+)\\((\"[^\"]*\")?\\)").matcher(thrown.group(1));
            Check.holds("rule 6: throw" + thrown.group(1), form.matches() && EXCEPTIONS.contains(form.group(1)));
        }
    }

    private static void checkMethodLengths(String code) {
        int begin = -1;
        String[] lines = code.split("\n");
        for (int i = 0; i < lines.length; i++) {
            boolean head = lines[i].matches("( {4}| {8})\\w.*\\(.*") && !lines[i].contains(";");
            begin = head && begin < 0 ? i : begin;
            if (begin >= 0 && lines[i].equals(lines[begin].replaceAll("\\S.*", "") + "}")) {
                Check.holds("rule 11: some sixty lines: " + lines[begin].trim(), i - begin <= 60);
                begin = -1;
            }
        }
    }

    private static void checkCallDepth(String code) {
        Map<String, String> bodies = new TreeMap<>();
        Matcher method = METHOD.matcher(code);
        while (method.find()) {
            // Calls are told apart by their names alone, so no two methods may share one.
            Check.same("null", String.valueOf(bodies.put(method.group(2), method.group(3))));
        }
        for (Method call : TensorForge.class.getDeclaredMethods()) {
            Check.holds("a body is found of " + call.getName(), bodies.containsKey(call.getName()));
        }
        Map<String, Integer> depths = new TreeMap<>();
        for (String name : bodies.keySet()) {
            Check.holds("rule 11: eight calls deep from " + name, depth(name, bodies, depths) <= MOST_DEPTH);
        }
    }

    /** How many calls stand open at once under a call, itself and the library's counted too. */
    private static int depth(String name, Map<String, String> bodies, Map<String, Integer> depths) {
        if (!bodies.containsKey(name)) {
            return 1;
        }
        if (depths.containsKey(name)) {
            return depths.get(name);
        }
        // What is met again while it is still open calls itself: too deep, and not looked at once more.
        depths.put(name, MOST_DEPTH + 1);
        int below = 0;
        Matcher call = CALL.matcher(bodies.get(name));
        while (call.find()) {
            below = Math.max(below, depth(call.group(1), bodies, depths));
        }
        depths.put(name, below + 1);
        return below + 1;
    }

    private static void checkClass(Class<?> one) {
        int fields = 0;
        for (Field field : one.getDeclaredFields()) {
            if (Modifier.isStatic(field.getModifiers())) {
                Check.holds("rule 5: " + field, Modifier.isFinal(field.getModifiers())
                        && CONSTANTS.contains(field.getType()));
            } else {
                fields++;
            }
        }
        Check.holds("rule 11: some twenty fields in " + one, fields <= 20);
        List<Executable> calls = new ArrayList<>(List.of(one.getDeclaredMethods()));
        calls.addAll(List.of(one.getDeclaredConstructors()));
        for (Executable call : calls) {
            Check.holds("rule 11: seven parameters: " + call, call.getParameterCount() <= 7);
        }
    }
}
