import java.util.Set;

/** Counts the answers that are not due, for the tests; a test ends by Due.end(). */
final class Due {
    static final int INVALID = -1;
    static final int ILLEGAL = -2;
    static final int FULL = -3;
    static final int NONE = -9;

    /** The classes of which no line is told as that of a wrong answer, as they ask for others. */
    private static final Set<String> HELPERS = Set.of("Due", "Told", "Sentence");

    private static final int MOST_SHOWN = 20;
    /** Far above what any test takes, so that a call that does not end fails its test. */
    private static final long MOST_MILLISECONDS = 300_000;

    private static volatile String about = "";
    private static int asked = 0;
    private static int wrong = 0;

    static {
        Thread watch = new Thread(Due::endTooLate);
        watch.setDaemon(true);
        watch.start();
    }

    private Due() {
    }

    private static void endTooLate() {
        try {
            Thread.sleep(MOST_MILLISECONDS);
            System.out.println(about + "a call does not end");
        } catch (InterruptedException stopped) {
            System.out.println(about + "the watch was stopped");
        }
        Runtime.getRuntime().halt(2);
    }

    static void due(String call, long got, long want) {
        asked++;
        if (got != want) {
            show(call + " answered " + got + ", due is " + want);
        }
    }

    static void due(String call, boolean isSo) {
        due(call, isSo ? 1 : 0, 1);
    }

    /** What is told before each wrong answer from now on. */
    static void about(String text) {
        about = text;
    }

    /** How many answers were tested so far. */
    static int asked() {
        return asked;
    }

    static void end() {
        System.out.println(asked + " answers, " + wrong + " of them not as due");
        if (wrong != 0 || asked == 0) {
            System.exit(1);
        }
    }

    /** Counts a wrong answer, and shows the first ones: those behind them seldom tell more. */
    private static void show(String text) {
        wrong++;
        if (wrong <= MOST_SHOWN) {
            System.out.println(about + text + where());
        }
    }

    private static String where() {
        for (StackTraceElement element : new Throwable().getStackTrace()) {
            if (!HELPERS.contains(element.getClassName())) {
                return " (" + element.getFileName() + ":" + element.getLineNumber() + ")";
            }
        }
        return "";
    }

    /** A new object with so many servers. */
    static EvenLoads servers(int servers) {
        EvenLoads x = new EvenLoads();
        for (int i = 0; i < servers; i++) {
            x.addServer();
        }
        return x;
    }

    /** Appends a text, sign by sign. */
    static EvenLoads type(EvenLoads x, String text) {
        for (char sign : text.toCharArray()) {
            x.append(sign);
        }
        return x;
    }

    /** Types a text and runs it; its servers and jobs are those that stand already. */
    static int runText(EvenLoads x, String text) {
        x.clearText();
        return type(x, text).run();
    }

    /** All that can be looked at of the state, without the text and the number of states. */
    static String picture(EvenLoads x) {
        StringBuilder picture = new StringBuilder();
        for (int what = 0; what <= 12; what++) {
            picture.append(x.count(what)).append(' ');
        }
        for (int server = 0; server < x.count(0); server++) {
            picture.append('|');
            for (int what = 0; what <= 4; what++) {
                picture.append(x.server(server, what)).append(' ');
            }
        }
        for (int job = 0; job < x.count(2); job++) {
            picture.append('|');
            for (int what = 0; what <= 3; what++) {
                picture.append(x.job(job, what)).append(' ');
            }
        }
        return picture.toString();
    }

    static void same(String call, String got, String want) {
        asked++;
        if (!got.equals(want)) {
            show(call + "\n  is  " + got + "\n  due " + want);
        }
    }
}
