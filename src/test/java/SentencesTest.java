import java.io.IOException;
import java.nio.file.Files;
import java.nio.file.Path;
import java.util.ArrayList;
import java.util.List;
import java.util.Map;

/**
 * The tests by sentences of the document, and that they leave none of them out: each sentence that the
 * class can keep or break is quoted word by word by a test. Runs in the project's folder.
 */
public final class SentencesTest {
    private static final Path DOCUMENT = Path.of("../shared/DOC.md");
    /** How the sentences begin that name nothing that a call could answer. */
    private static final List<String> TITLES = List.of(
            "What it is: Jobs on servers: loads,",
            "Terms: Ahead of the calls `addServer`,", "Terms: Ahead of the calls `move`,",
            "Terms: Ahead of the calls `append`,", "Terms: Ahead of the calls `count`,");

    public static void main(String[] args) throws IOException {
        TermsOfLoads.all();
        TermsOfPlans.all();
        TermsOfPrograms.all();
        TermsOfUndo.all();
        SentencesOfJobs.all();
        SentencesOfMoves.all();
        SentencesOfPrograms.all();
        SentencesOfLooking.all();
        SentencesOfOutlook.all();
        compare(Sentence.end(), sentences(Files.readAllLines(DOCUMENT)));
        Due.end();
    }

    private static void compare(Map<String, Integer> tested, List<String> sentences) {
        for (String sentence : sentences) {
            boolean isTitle = TITLES.stream().anyMatch(sentence::startsWith);
            Due.due("tested, " + sentence, isTitle || tested.getOrDefault(sentence, 0) > 0);
        }
        for (String quoted : tested.keySet()) {
            Due.due("stands in the document, " + quoted, sentences.contains(quoted));
        }
    }

    /** The sentences from "What it is" to the last promise, as "section: sentence". */
    private static List<String> sentences(List<String> lines) {
        List<String> sentences = new ArrayList<>();
        String section = "";
        StringBuilder paragraph = new StringBuilder();
        boolean isCode = false;
        for (String line : lines) {
            boolean isTitle = line.startsWith("#") && !isCode;
            if (isTitle || line.isBlank() || line.startsWith("- ")) {
                cut(section, paragraph, sentences);
            }
            if (line.startsWith("```")) {
                isCode = !isCode;
            } else if (line.startsWith("## ")) {
                section = line.substring(3).replaceFirst("^(Promise \\d+):.*", "$1");
            } else if (!isTitle && !isCode && isTold(section)) {
                paragraph.append(' ').append(line.replaceFirst("^- ", "").strip());
            }
        }
        cut(section, paragraph, sentences);
        return sentences;
    }

    private static boolean isTold(String section) {
        return section.equals("What it is") || section.equals("Terms") || section.startsWith("Promise ");
    }

    /** Cuts a paragraph behind each full stop and empties it. */
    private static void cut(String section, StringBuilder paragraph, List<String> sentences) {
        for (String sentence : paragraph.toString().strip().split("(?<=\\.)\\s+")) {
            if (!sentence.isEmpty()) {
                sentences.add(section + ": " + sentence);
            }
        }
        paragraph.setLength(0);
    }
}
