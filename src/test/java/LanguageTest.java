import java.io.IOException;
import java.nio.file.Files;
import java.nio.file.Path;
import java.util.ArrayList;
import java.util.List;
import java.util.Map;
import java.util.Set;
import java.util.TreeMap;
import java.util.TreeSet;
import java.util.regex.Matcher;
import java.util.regex.Pattern;

/** What can be seen from the text of the class of the rules of LANGUAGE.md. Runs in the project's folder. */
public final class LanguageTest {
    /** What no line may hold: patterns, by the rules 1, 4, 6 and 13. */
    private static final String[] BARRED = {
        "\\b(package|protected|native|volatile)\\b", "\\b(throw|throws|try|catch|finally|synchronized|assert)\\b",
        "^import (?!java\\.util\\.(ArrayList|List|Arrays|Iterator);)", "\\bSystem\\.(?!arraycopy\\()", "Exact\\(",
        "\\b(Object|Thread|Random|Class)\\b", "\\bint hashCode\\(", "\\bString toString\\(", "\\bboolean equals\\(", "::",
        "^(?!\\s*(case|default)\\b).*->",
    };
    private static final int FACE_METHODS = 23;
    private static final int MOST_LINES = 60;
    private static final int MOST_PARAMETERS = 7;
    private static final int MOST_CLASSES = 12;
    private static final int MOST_FIELDS = 20;
    private static final int MOST_DEPTH = 8;
    /** The only method that may call itself; its depth is an argument. */
    private static final String RECURSIVE = "cheapest";
    private static final Pattern METHOD =
            Pattern.compile("^( {4}| {8})(public |private )?(static )?[A-Za-z\\[\\]]+( \\w+)?\\((.*)\\) \\{$");
    private static final Pattern CALLED = Pattern.compile("\\b(\\w+)\\(");
    private static final Pattern INDEX = Pattern.compile("\\w\\[\\w+\\]");

    public static void main(String[] args) throws IOException {
        List<String> lines = Files.readAllLines(Path.of("src/main/java/EvenLoads.java"));
        List<String> code = lines.stream().map(LanguageTest::withoutComment).toList();
        words(code);
        methods(code);
        classes(code);
        indices(code);
        calls(bodies(code));
        Due.end();
    }

    private static String withoutComment(String line) {
        String start = line.strip();
        if (start.startsWith("*") || start.startsWith("/*")) {
            return "";
        }
        return line.replaceFirst("//.*", "");
    }

    private static void words(List<String> code) {
        for (String line : code) {
            for (String barred : BARRED) {
                Due.due("barred, " + barred + ", in " + line, !Pattern.compile(barred).matcher(line).find());
            }
            boolean isAscii = line.chars().allMatch(sign -> sign < 128);
            Due.due("4 signs of " + line, isAscii);
        }
    }

    private static void methods(List<String> code) {
        int found = 0;
        for (int i = 0; i < code.size(); i++) {
            Matcher method = METHOD.matcher(code.get(i));
            if (method.matches()) {
                found++;
                int end = code.subList(i, code.size()).indexOf(method.group(1) + "}");
                Due.due("11 length of " + code.get(i), end >= 0 && end < MOST_LINES);
                int parameters = method.group(5).split(",").length;
                Due.due("11 parameters of " + code.get(i), parameters <= MOST_PARAMETERS);
            }
        }
        Due.due("methods are found", found >= FACE_METHODS);
    }

    private static void classes(List<String> code) {
        int classes = 0;
        int fields = 0;
        for (String line : code) {
            if (line.contains(" class ")) {
                classes++;
                fields = 0;
                Due.due("2 " + line, line.startsWith("public final ") || line.contains("static "));
            }
            if (line.matches(" {4,8}private [^()]*;") || line.matches(" {4,8}private .* = new .*;")) {
                boolean isConstant = line.contains(" static ");
                Due.due("5 " + line, !isConstant || line.contains(" static final "));
                fields += isConstant ? 0 : 1;
                Due.due("11 fields up to " + line, fields <= MOST_FIELDS);
            }
        }
        Due.due("11 classes", classes >= 1 && classes <= MOST_CLASSES);
    }

    /** Where there are at and put, which look at the index first, rows are used by them alone. */
    private static void indices(List<String> code) {
        if (code.stream().noneMatch(line -> line.contains("int at(int[] row, int index)"))) {
            return;
        }
        int used = 0;
        for (String line : code) {
            Matcher index = INDEX.matcher(line.replaceAll("new \\w+\\[\\w+\\]", ""));
            while (index.find()) {
                used++;
            }
        }
        Due.due("7 places that use an index: at, put, states twice", used, 4);
    }

    /** The lines of each method by its name; those of methods of the same name together. */
    private static Map<String, List<String>> bodies(List<String> code) {
        Map<String, List<String>> bodies = new TreeMap<>();
        for (int i = 0; i < code.size(); i++) {
            Matcher method = METHOD.matcher(code.get(i));
            if (method.matches() && method.group(4) != null) {
                int end = code.subList(i, code.size()).indexOf(method.group(1) + "}");
                List<String> body = code.subList(i + 1, i + Math.max(end, 1));
                bodies.computeIfAbsent(method.group(4).strip(), name -> new ArrayList<>()).addAll(body);
            }
        }
        return bodies;
    }

    /** How deep calls go, that one method alone calls itself, and that none makes an object or an array. */
    private static void calls(Map<String, List<String>> bodies) {
        Due.due("bodies are found", bodies.size() >= FACE_METHODS);
        for (String name : bodies.keySet()) {
            Due.due("11 calls from " + name + " on", depth(name, bodies, Set.of()) <= MOST_DEPTH);
            boolean makes = bodies.get(name).stream().anyMatch(line -> line.matches(".*(\\bnew\\b|\\.clone\\().*"));
            Due.due("12 what " + name + " makes", !makes);
        }
    }

    /** The most calls that stand open at once from a method on; far too many if they come back to it. */
    private static int depth(String name, Map<String, List<String>> bodies, Set<String> open) {
        if (open.contains(name)) {
            return MOST_DEPTH + 1;
        }
        Set<String> inside = new TreeSet<>(open);
        inside.add(name);
        int deepest = 0;
        for (String line : bodies.get(name)) {
            Matcher called = CALLED.matcher(line);
            while (called.find()) {
                boolean isItself = name.equals(RECURSIVE) && called.group(1).equals(name);
                if (bodies.containsKey(called.group(1)) && !isItself) {
                    deepest = Math.max(deepest, depth(called.group(1), bodies, inside));
                }
            }
        }
        return deepest + 1;
    }
}
