import java.io.IOException;
import java.lang.reflect.Method;
import java.lang.reflect.Modifier;
import java.net.URL;
import java.net.URLClassLoader;
import java.nio.file.Files;
import java.nio.file.Path;
import java.util.ArrayList;
import java.util.List;
import java.util.Set;
import java.util.TreeSet;
import java.util.regex.Matcher;
import java.util.regex.Pattern;
import java.util.stream.Stream;
import javax.tools.JavaCompiler;
import javax.tools.ToolProvider;

/** That README.md holds when it is done word by word. Runs in the project's folder. */
public final class ReadmeTest {
    private static final Path README = Path.of("README.md");
    private static final Path TESTS = Path.of("src/test/java");
    /** A call that the page shows, the variable that keeps its answer, if one does, and the answer. */
    private static final Pattern CALL =
            Pattern.compile("(?:int (\\w+) = )?(loads\\.\\w+\\(.*\\));\\s+// (-?\\d+)\\b.*");
    private static final Pattern NAME = Pattern.compile("loads\\.(\\w+)\\(");
    private static final Pattern TABLE_ROW = Pattern.compile("\\| `(\\w+)` \\|.*");
    private static final Pattern PATH = Pattern.compile("`([\\w.]*/[\\w./]+)`");

    public static void main(String[] args) throws IOException, ReflectiveOperationException {
        List<String> lines = Files.readAllLines(README);
        List<String> shown = shown(lines);
        showsEachCall(shown);
        answersAsShown(shown);
        namesEachTest(lines);
        namesWhatIsThere(lines);
        Due.end();
    }

    /** The lines of Java that the page shows, as those of one method. */
    private static List<String> shown(List<String> lines) {
        List<String> shown = new ArrayList<>();
        boolean isJava = false;
        for (String line : lines) {
            if (line.startsWith("```")) {
                isJava = line.equals("```java");
            } else if (isJava) {
                shown.add(line);
            }
        }
        return shown;
    }

    private static void showsEachCall(List<String> shown) {
        Set<String> names = new TreeSet<>();
        for (String line : shown) {
            Matcher name = NAME.matcher(line);
            while (name.find()) {
                names.add(name.group(1));
            }
        }
        Set<String> face = new TreeSet<>();
        for (Method method : EvenLoads.class.getDeclaredMethods()) {
            if (Modifier.isPublic(method.getModifiers())) {
                face.add(method.getName());
            }
        }
        Due.same("the calls that README.md shows", names.toString(), face.toString());
    }

    /** Compiles the lines as they stand, with each answer kept, and compares it with the one that is shown. */
    private static void answersAsShown(List<String> shown) throws IOException, ReflectiveOperationException {
        StringBuilder mine = new StringBuilder("public final class Mine {\n");
        mine.append("public static void ask(java.util.List<Integer> answers) {\n");
        List<Matcher> calls = new ArrayList<>();
        for (String line : shown) {
            Matcher call = CALL.matcher(line);
            boolean isCall = line.contains("loads.") && !line.startsWith(" ");
            Due.due("README.md shows the answer of " + line, call.matches() == isCall);
            mine.append(call.matches() ? kept(line, call) : line).append('\n');
            if (call.matches()) {
                calls.add(call);
            }
        }
        List<Integer> answers = answers(mine.append("}\n}\n").toString());
        Due.due("README.md is done to its end", answers.size(), calls.size());
        for (int i = 0; i < Math.min(answers.size(), calls.size()); i++) {
            String told = "README.md, answer " + (i + 1) + ": " + calls.get(i).group(2);
            Due.due(told, answers.get(i), Integer.parseInt(calls.get(i).group(3)));
        }
    }

    /** A call that keeps its answer, and makes the variable that it makes on the page. */
    private static String kept(String line, Matcher call) {
        if (call.group(1) == null) {
            return "answers.add(" + call.group(2) + ");";
        }
        return line + "\nanswers.add(" + call.group(1) + ");";
    }

    private static List<Integer> answers(String mine) throws IOException, ReflectiveOperationException {
        List<Integer> answers = new ArrayList<>();
        Path folder = Files.createTempDirectory("readme");
        Path file = Files.writeString(folder.resolve("Mine.java"), mine);
        JavaCompiler javac = ToolProvider.getSystemJavaCompiler();
        String path = System.getProperty("java.class.path");
        int compiled = javac.run(null, null, null, "-cp", path, "-d", folder.toString(), file.toString());
        if (compiled == 0) {
            try (URLClassLoader loader = new URLClassLoader(new URL[] {folder.toUri().toURL()})) {
                loader.loadClass("Mine").getMethod("ask", List.class).invoke(null, answers);
            }
        }
        Files.deleteIfExists(folder.resolve("Mine.class"));
        Files.delete(file);
        Files.delete(folder);
        return answers;
    }

    private static void namesEachTest(List<String> lines) throws IOException {
        Set<String> named = new TreeSet<>();
        for (String line : lines) {
            Matcher row = TABLE_ROW.matcher(line);
            if (row.matches()) {
                named.add(row.group(1));
            }
        }
        Set<String> tests = new TreeSet<>();
        try (Stream<Path> files = Files.list(TESTS)) {
            files.map(file -> file.getFileName().toString()).filter(name -> name.endsWith("Test.java"))
                    .forEach(name -> tests.add(name.replace(".java", "")));
        }
        Due.same("the tests that README.md names", named.toString(), tests.toString());
    }

    private static void namesWhatIsThere(List<String> lines) {
        int paths = 0;
        for (String line : lines) {
            Matcher path = PATH.matcher(line);
            while (path.find()) {
                paths++;
                Due.due("README.md names " + path.group(1), Files.exists(Path.of(path.group(1))));
            }
        }
        Due.due("paths are found", paths > 0);
        Due.due(".ci/run can be run", Files.isExecutable(Path.of(".ci/run")));
    }
}
