/** The sentences of the promises 14 to 16: append, clearText, run. */
final class SentencesOfPrograms {
    private static final String MIXED = TermsOfUndo.MIXED;
    private static final String FULL_TEXT = "addServer() type(" + "p1; ".repeat(25) + ")";

    private SentencesOfPrograms() {
    }

    static void all() {
        append();
        appendAnswers();
        clearText();
        run();
        runIsOneAction();
        runAnswers();
    }

    private static void append() {
        Sentence.of(14, "`int append(int character)`: Appends a character to the text.");
        Sentence.row("addServer() append(106) append(53) append(32) append(54) append(32) append(48) append(59) count(14)=7 run()=1"
                + " job(0, 0)=5 job(0, 1)=6 job(0, 2)=0");
        // At its end: the text is run in the order in which it was appended.
        Sentence.row("addServer() append(112) append(51) append(48) append(59) run()=1 append(51) append(112) run()=-1000");
        Sentence.of(14, "`character`: character code, 1 to 255");
        Sentence.row("append(1)=1 append(255)=2 append(2)=3 append(254)=4 append(128)=5 append(127)=6 count(14)=6 run()=-1000");
        Sentence.row("append(32)=1 append(255)=2 run()=-1001 clearText()=2 append(32)=1 append(1)=2 run()=-1001");
        Sentence.refused(Due.INVALID, MIXED, "append(0)", "append(256)", "append(-1)", "append(288)", "append(MIN)", "append(MAX)");
        Sentence.refused(Due.INVALID, "type(p1;)", "append(0)", "append(256)", "append(-1)", "append(MIN)", "append(MAX)");
        for (int code = 1; code <= 255; code++) {
            Told told = Told.of("append(" + code + ")=1 append(" + code + ")=2");
            // The sign is kept as it is: only a space can stand alone, and only a letter can be first.
            int want = code == ' ' ? 0 : "jfmxrp".indexOf(code) >= 0 ? -1001 : -1000;
            Due.due(told + " run()", told.answer("run()"), want);
        }
    }

    private static void appendAnswers() {
        Sentence.of(14, "Returns the new length of the text; INVALID_ARGUMENT if character is out of range; CAPACITY_EXCEEDED if the"
                + " text already has 100 characters.");
        Told told = new Told();
        for (int length = 1; length <= 100; length++) {
            told.does("append(32)=" + length);
        }
        told.does("append(32)=FULL append(32)=FULL count(14)=100 clearText()=100 append(32)=1 count(14)=1");
        Sentence.row("type(" + " ".repeat(99) + ")=99 append(32)=100 append(32)=FULL run()=0 append(32)=1");
        Sentence.row("type(" + " ".repeat(99) + "?)=100 append(32)=FULL run()=-1099 append(32)=FULL");
        Sentence.refused(Due.FULL, FULL_TEXT, "append(1)", "append(32)", "append(112)", "append(255)");
        Sentence.refused(Due.INVALID, FULL_TEXT, "append(0)", "append(256)", "append(-1)", "append(MAX)");
        Sentence.row("type(p1) append(0)=INVALID append(59)=3 count(14)=3 run()=1");
    }

    private static void clearText() {
        Sentence.of(15, "`int clearText()`: Makes the text empty.");
        Sentence.row("addServer() type(j5 5 0;) clearText()=7 count(14)=0 run()=0 count(2)=0");
        Sentence.row("addServer() type(???) clearText()=3 type(p1;)=3 run()=1");
        Sentence.row("addServer() type(j5) clearText()=2 type( 5 0;)=5 run()=-1001");
        Sentence.changesText(MIXED + " type(m0 1;)", "clearText()", 5);
        Sentence.of(15, "Returns the previous length of the text.");
        Sentence.row("clearText()=0 append(65) clearText()=1 clearText()=0 type(" + " ".repeat(100) + ") clearText()=100 clearText()=0");
        Sentence.row("type(?) run()=-1000 clearText()=1 type(  ) run()=0 clearText()=0");
        Sentence.changesText("", "clearText()", 0);
    }

    private static void run() {
        Sentence.of(16, "`int run()`: Runs the text as a program.");
        Sentence.row("2*addServer() type(j10 1 0;j20 2 0;j30 4 1;m0 1;x1 2;f0;p1;) run()=7 job(0, 2)=NONE job(1, 2)=1 job(2, 2)=0"
                + " job(0, 3)=1 job(1, 3)=1 job(2, 3)=1 count(10)=493 count(12)=3 count(13)=3 count(14)=0");
        Sentence.row("3*addServer() type(j1 1 0;j2 2 1;j3 4 2;r0 1 2;r0 1 2;) run()=5 job(0, 2)=2 job(1, 2)=0 job(2, 2)=1"
                + " count(12)=6 count(10)=486");
    }

    private static void runIsOneAction() {
        Sentence.of(16, "If it does not fail, this is one action, also without orders, and the text becomes empty; if it fails, the"
                + " text is kept.");
        Sentence.action("addServer() type(j1 1 0;j2 1 0;f0;p1;f1;j3 3 0;j4 4 0;)", "run()", 7);
        Sentence.action(MIXED + " type(m0 1;m0 0;x0 1;r0 1 2;f0;)", "run()", 5);
        Sentence.action(MIXED, "run()", 0);
        Sentence.action(MIXED + " type( )", "run()", 0);
        Sentence.action("", "run()", 0);
        Sentence.row("addServer() type(p1;) run()=1 count(14)=0 count(13)=2 append(112)=1 run()=-1001 count(14)=1 count(13)=2");
        Sentence.row("addServer() type( ) run()=0 count(14)=0 count(13)=2 run()=0 count(13)=3 undo()=2 count(14)=0");
        // The text that failed is kept as it was: it fails again, goes on, or runs when the state allows it.
        Sentence.row("addServer() type(p1;p) run()=-1004 count(14)=4 count(13)=1 run()=-1004"
                + " append(49) append(59)=6 run()=2 count(14)=0 count(13)=2");
        Sentence.row("type(j5 5 0;) run()=-1000 count(14)=7 addServer() run()=1 job(0, 0)=5 count(14)=0");
        Sentence.refused(-1003, MIXED + " type(p1;?)", "run()");
        Sentence.refused(-1005, MIXED + " type(m0 1;m0 1;)", "run()");
        Sentence.refused(-1000, "type(?)", "run()");
        Sentence.refused(-1001, "type(p)", "run()");
    }

    private static void runAnswers() {
        Sentence.of(16, "Returns the number of orders; -1000 minus the place of the failure if it fails.");
        Sentence.row("run()=0 type(p1;) run()=1 type(p1;p1;) run()=2 type(p1; p1 ;p 1;) run()=3");
        Sentence.row("type(" + "p1;".repeat(33) + ") run()=33");
        Sentence.row("type(?) run()=-1000 append(63)=2 run()=-1000 clearText()=2 type( ?) run()=-1001 clearText() type(p) run()=-1001");
        Sentence.row("type(" + "p1;".repeat(33) + "?) run()=-1099");
        Sentence.row("type(" + "p1;".repeat(33) + "p) run()=-1100");
        Sentence.row("type(" + "p1;".repeat(32) + "f0;) run()=-1096");
    }
}
