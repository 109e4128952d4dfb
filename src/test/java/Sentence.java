import java.util.TreeMap;

/**
 * Tests by sentences of the document. A test says by of() which promise it is for and which sentence it
 * tests; both are told when an answer is not the one that is due.
 */
final class Sentence {
    /** How many answers were tested for each sentence, by "section: sentence". */
    private static final TreeMap<String, Integer> TESTED = new TreeMap<>();
    private static final int MOST_STATES = 5;
    private static final String ORDERS = "type(p1; p1;)";
    private static String quoted = "";
    private static int askedBefore = 0;

    private Sentence() {
    }

    /** Begins the tests of a sentence of a promise. */
    static void of(int promise, String sentence) {
        begin("Promise " + promise, "", sentence);
    }

    /** Begins the tests of a sentence of the Terms, which these promises share. */
    static void ofTerms(String promises, String sentence) {
        begin("Terms", ", for the promises " + promises, sentence);
    }

    /** Begins the tests of a sentence that tells what the class is. */
    static void ofAll(String sentence) {
        begin("What it is", "", sentence);
    }

    private static void begin(String section, String promises, String sentence) {
        countAsked();
        quoted = section + ": " + sentence;
        Due.about(section + promises + ": \"" + sentence + "\"\n   ");
    }

    /** Ends the tests and answers how many answers were tested for each sentence. */
    static TreeMap<String, Integer> end() {
        countAsked();
        quoted = "";
        Due.about("");
        return TESTED;
    }

    private static void countAsked() {
        if (!quoted.isEmpty()) {
            TESTED.merge(quoted, Due.asked() - askedBefore, Integer::sum);
        }
        askedBefore = Due.asked();
    }

    // ---- the tests of a sentence, on objects that are told their calls

    /** A row of calls on a new object. */
    static void row(String calls) {
        Told.of(calls);
    }

    /** A call that looks, or that is refused: its answer, and that it changes nothing. */
    static void same(String start, String call, int want) {
        String typing = start.contains("type(") || start.contains("append(") ? "" : " " + ORDERS;
        leaves(start + typing, call, want, true);
    }

    /** Calls that are refused, each with the same error code. */
    static void refused(int code, String start, String... calls) {
        for (String call : calls) {
            same(start, call, code);
        }
    }

    /** A call that changes the text alone. */
    static void changesText(String start, String call, int want) {
        leaves(start, call, want, false);
    }

    private static void leaves(String start, String call, int want, boolean alsoText) {
        int states = Told.of(start).answer("count(13)");
        for (int undone = 0; undone <= states; undone++) {
            Told asked = Told.of(start);
            Told unasked = Told.of(start);
            Due.due(asked + " then " + call, asked.answer(call), want);
            undo(asked, unasked, undone);
            Due.same(asked + " is as without it", asked.state(), unasked.state());
            Due.due(asked + " count(13)", asked.answer("count(13)"), states - undone);
            if (alsoText) {
                Due.same(asked + " has the text as without it", asked.rest(), unasked.rest());
                Due.due(asked + " run()", asked.answer("run()"), unasked.answer("run()"));
                Due.same(asked + " is as without it", asked.outline(), unasked.outline());
                Due.due(asked + " undo()", asked.answer("undo()"), unasked.answer("undo()"));
                Due.same(asked + " is as without it", asked.outline(), unasked.outline());
            }
        }
    }

    /** An action: its answer, the state that it records, and that undo() brings back just that one. */
    static void action(String start, String call, int want) {
        Told before = Told.of(start);
        int states = before.answer("count(13)");
        int then = Math.min(states + 1, MOST_STATES);
        for (int undone = 1; undone <= then; undone++) {
            Told asked = Told.of(start);
            Told unasked = Told.of(start);
            Due.due(asked + " then " + call, asked.answer(call), want);
            Due.due(asked + " count(13)", asked.answer("count(13)"), then);
            Due.due(asked + " undo()", asked.answer("undo()"), then - 1);
            undo(asked, unasked, undone - 1);
            Due.same(asked + " is as before", asked.state(), unasked.state());
        }
        Told last = Told.of(start);
        last.answer(call);
        for (int left = then - 1; left >= 0; left--) {
            Due.due(last + " undo()", last.answer("undo()"), left);
        }
        Due.due(last + " undo()", last.answer("undo()"), Due.ILLEGAL);
    }

    private static void undo(Told one, Told other, int times) {
        for (int i = 0; i < times; i++) {
            boolean isUndone = one.answer("undo()") >= 0 && other.answer("undo()") >= 0;
            Due.due(one + " undo()", isUndone);
        }
    }
}
