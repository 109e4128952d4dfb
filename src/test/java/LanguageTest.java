import java.io.IOException;
import java.nio.file.Files;
import java.nio.file.Path;
import java.util.List;
import java.util.regex.Matcher;
import java.util.regex.Pattern;

/** What can be seen from the text of the class of the rules of LANGUAGE.md. Runs in the project's folder. */
public final class LanguageTest {
    private static final String[] BARRED = {
        "throw", "try", "catch", "finally", "synchronized", "assert", "import", "package", "protected",
        "System.exit", "System.out", "Object", "hashCode", "toString", "Exact", "->", "::", "@",
    };
    private static final int MOST_LINES = 60;
    private static final int MOST_PARAMETERS = 7;
    private static final int MOST_CLASSES = 12;
    private static final int MOST_FIELDS = 20;
    private static final Pattern METHOD =
            Pattern.compile("^( {4}| {8})(public |private )?(static )?[A-Za-z\\[\\]]+( \\w+)?\\((.*)\\) \\{$");
    private static final Pattern INDEX = Pattern.compile("\\w\\[\\w+\\]");

    public static void main(String[] args) throws IOException {
        List<String> lines = Files.readAllLines(Path.of("src/main/java/EvenLoads.java"));
        List<String> code = lines.stream().map(LanguageTest::withoutComment).toList();
        words(code);
        methods(code);
        classes(code);
        indices(code);
        Due.end();
    }

    private static String withoutComment(String line) {
        String start = line.strip();
        if (start.startsWith("*") || start.startsWith("/*")) {
            return "";
        }
        return line.replaceFirst("//.*", "");
    }

    private static void words(List<String> code) {
        for (String line : code) {
            for (String word : BARRED) {
                boolean isLetters = Character.isLetter(word.charAt(0));
                String pattern = isLetters ? "\\b" + Pattern.quote(word) + "\\b" : Pattern.quote(word);
                Due.due("6 " + word + " in " + line, !Pattern.compile(pattern).matcher(line).find());
            }
            boolean isAscii = line.chars().allMatch(sign -> sign < 128);
            Due.due("4 signs of " + line, isAscii);
        }
    }

    private static void methods(List<String> code) {
        int found = 0;
        for (int i = 0; i < code.size(); i++) {
            Matcher method = METHOD.matcher(code.get(i));
            if (method.matches()) {
                found++;
                int end = code.subList(i, code.size()).indexOf(method.group(1) + "}");
                Due.due("11 length of " + code.get(i), end >= 0 && end < MOST_LINES);
                int parameters = method.group(5).split(",").length;
                Due.due("11 parameters of " + code.get(i), parameters <= MOST_PARAMETERS);
            }
        }
        Due.due("methods are found", found > 60);
    }

    private static void classes(List<String> code) {
        int classes = 0;
        int fields = 0;
        for (String line : code) {
            if (line.contains(" class ")) {
                classes++;
                fields = 0;
                Due.due("2 " + line, line.startsWith("public final ") || line.contains("private static final "));
            }
            if (line.matches(" {4,8}private [^()]*;") || line.matches(" {4,8}private .* = new .*;")) {
                boolean isConstant = line.contains(" static ");
                Due.due("5 " + line, !isConstant || line.contains(" static final "));
                fields += isConstant ? 0 : 1;
                Due.due("11 fields up to " + line, fields <= MOST_FIELDS);
            }
        }
        Due.due("11 classes", classes > 1 && classes <= MOST_CLASSES);
    }

    /** Rows are used by at, put and copyRow alone, which look at the index first. */
    private static void indices(List<String> code) {
        int used = 0;
        for (String line : code) {
            Matcher index = INDEX.matcher(line.replaceAll("new \\w+\\[\\w+\\]", ""));
            while (index.find()) {
                used++;
            }
        }
        Due.due("7 places that use an index: at, put, states twice", used, 4);
    }
}
