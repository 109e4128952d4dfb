/** The sentences of the Terms on undo and on errors. */
final class TermsOfUndo {
    /** Jobs 0 (10), 1 (20), 2 (30) and 4 (5) on the servers 0, 1, 2 and 0; 3 is finished, the server 3 is closed. */
    static final String MIXED = "4*addServer() add(10, 1, 0) add(20, 2, 1) add(30, 4, 2) add(7, 7, 0) add(5, 3, 0) finish(3)"
            + " close(3)";
    /** The calls that are actions, each of which is possible in MIXED with the text "m0 1;". */
    private static final String[] ACTIONS = {
        "addServer()", "add(1, 1, 0)", "finish(0)", "setBudget(9)", "setFactor(300)", "move(0, 1)", "exchange(0, 1)",
        "ring(0, 1, 2)", "even(1)", "close(2)", "open(3)", "run()",
    };
    private static final String PROGRAM = " type(m0 1;)";

    private TermsOfUndo() {
    }

    static void all() {
        fiveStates();
        whatAStateIs();
        actionsRecord();
        actionsWithoutChange();
        noActions();
        sixthState();
        undoRestores();
        refusedChangesNothing();
        firstError();
        noneIsNoError();
        finishedAndClosedExist();
        constants();
    }

    private static final String HISTORY = "A history of at most 5 states is kept; a state is everything but the text and the"
            + " history.";

    private static void fiveStates() {
        Sentence.ofTerms("13 17", HISTORY);
        Sentence.row("count(13)=0 undo()=ILLEGAL setBudget(1) count(13)=1 setBudget(2) count(13)=2 setBudget(3) count(13)=3"
                + " setBudget(4) count(13)=4 setBudget(5) count(13)=5 setBudget(6) count(13)=5 setBudget(7) count(13)=5"
                + " undo()=4 count(10)=6 undo()=3 undo()=2 undo()=1 undo()=0 count(10)=2 undo()=ILLEGAL count(10)=2");
        // Five are all brought back, and of six the first one is not.
        Sentence.row("setBudget(1) setBudget(2) setBudget(3) setBudget(4) setBudget(5) 5*undo() count(10)=500 undo()=ILLEGAL");
        Sentence.row("setBudget(1) setBudget(2) setBudget(3) setBudget(4) setBudget(5) setBudget(6) 5*undo() count(10)=1"
                + " undo()=ILLEGAL");
        Sentence.row("setBudget(1) undo()=0 undo()=ILLEGAL 3*setBudget(2) 3*undo() undo()=ILLEGAL 6*setBudget(3) 5*undo()"
                + " undo()=ILLEGAL count(10)=3");
    }

    private static void whatAStateIs() {
        Sentence.ofTerms("13", HISTORY);
        // Servers, which of them are open, jobs, where they are, budget, factor, and what was counted of moves.
        Sentence.row(MIXED + " setFactor(200) addServer() add(9, 9, 4) move(0, 1) open(3) undo() undo() undo() undo() undo()"
                + " count(0)=4 count(1)=3 count(2)=5 count(3)=1 count(4)=65 count(11)=120 count(12)=0 count(10)=500"
                + " job(0, 2)=0 job(0, 3)=0 server(3, 0)=0");
        for (String action : ACTIONS) {
            Sentence.action(MIXED + PROGRAM, action, Told.of(MIXED + PROGRAM).answer(action));
        }
        // Not the text, and not the history, which undo() makes shorter.
        Sentence.row("addServer() type(p1) undo()=0 count(14)=2 count(13)=0 append(59)=3 run()=1");
        Sentence.row("type(p1;) addServer() clearText()=3 undo() count(14)=0 type(p) addServer() type(2) undo() count(14)=2");
    }

    private static final String RECORDS = "Every successful call of a method that is called an action records the state before"
            + " it (also if nothing changes by it); when a sixth one is recorded, the oldest one is dropped.";

    private static void actionsRecord() {
        Sentence.ofTerms("2 3 4 5 6 7 8 9 10 11 12 16", RECORDS);
        for (String action : ACTIONS) {
            // On a full history, and on one with a free place.
            Sentence.row(MIXED + PROGRAM + " count(13)=5 " + action + " count(13)=5 undo()=4");
            Sentence.row(MIXED + PROGRAM + " 2*undo() close(3) count(13)=4 " + action + " count(13)=5 undo()=4");
        }
    }

    private static void actionsWithoutChange() {
        Sentence.ofTerms("5 6 10 16", RECORDS);
        Sentence.action(MIXED, "setBudget(500)", 500);
        Sentence.action(MIXED, "setFactor(120)", 36);
        Sentence.action("2*addServer() add(5, 5, 0) add(5, 5, 1)", "even(30)", 0);
        Sentence.action("", "even(1)", 0);
        Sentence.action("", "run()", 0);
        Sentence.action("addServer()", "run()", 0);
        Sentence.action("type(   )", "run()", 0);
        Sentence.action("addServer() type(p1;)", "run()", 1);
        Sentence.row("setBudget(500) setFactor(120) even(1)=0 run()=0 count(13)=4 undo()=3 undo()=2 undo()=1 undo()=0");
    }

    private static void noActions() {
        Sentence.ofTerms("14 15 17 18 19 20 21 22 23 24", RECORDS);
        Sentence.changesText(MIXED, "append(65)", 1);
        Sentence.changesText(MIXED + " type(p1;)", "clearText()", 3);
        Sentence.changesText("", "append(65)", 1);
        Sentence.changesText("", "clearText()", 0);
        for (String look : new String[] {"count(5)", "server(0, 1)", "job(0, 0)", "leaving(0, 0)", "step(0)", "plan(0)",
            "fewest(0)", "without(0)", "plan(3)"}) {
            Sentence.same(MIXED, look, Told.of(MIXED).answer(look));
            Sentence.same("2*addServer() 3*add(5, 1, 0)", look, Told.of("2*addServer() 3*add(5, 1, 0)").answer(look));
        }
    }

    private static void sixthState() {
        Sentence.ofTerms("13", RECORDS);
        for (int actions = 0; actions <= 13; actions++) {
            Told told = new Told();
            for (int i = 1; i <= actions; i++) {
                told.does("setBudget(" + i + ")");
            }
            int kept = Math.min(actions, 5);
            told.does("count(13)=" + kept);
            for (int left = kept - 1; left >= 0; left--) {
                int before = actions - kept + left;
                told.does("undo()=" + left + " count(10)=" + (before == 0 ? 500 : before));
            }
            told.does("undo()=ILLEGAL");
        }
    }

    private static void undoRestores() {
        Sentence.ofTerms("13", "undo() removes the latest state from the history and restores it.");
        // It is removed: the next undo() brings back the one before; a new action is recorded in its place.
        Sentence.row("setBudget(1) setBudget(2) setBudget(3) undo()=2 count(10)=2 undo()=1 count(10)=1 setBudget(8)=1 undo()=1"
                + " count(10)=1 undo()=0 count(10)=500 undo()=ILLEGAL");
        // undo() itself is no action: it is not undone.
        Sentence.row("addServer() undo()=0 undo()=ILLEGAL count(0)=0 addServer()=0");
        Sentence.row("2*addServer() add(5, 1, 0) move(0, 1) undo()=3 job(0, 2)=0 undo()=2 count(2)=0 undo()=1 count(0)=1"
                + " undo()=0 count(0)=0");
        Sentence.row("6*setBudget(1) setBudget(2) setBudget(3) 2*undo() setBudget(4) setBudget(5) setBudget(6) undo()=4"
                + " count(10)=5 undo()=3 count(10)=4 undo()=2 count(10)=1 undo()=1 undo()=0 undo()=ILLEGAL");
    }

    private static void refusedChangesNothing() {
        Sentence.ofTerms("2 3 4 5 6 7 8 9 10 11 12 13 14 16 24", "A call that returns an error code changes nothing.");
        Sentence.refused(Due.INVALID, MIXED, "add(0, 0, 0)", "finish(5)", "setBudget(10001)", "setFactor(401)", "move(5, 0)",
                "move(0, 4)", "exchange(0, 5)", "exchange(0, 0)", "ring(0, 1, 5)", "ring(0, 1, 1)", "even(0)", "even(31)",
                "close(4)", "open(4)", "append(0)", "append(256)", "without(4)", "count(15)", "server(4, 0)", "job(5, 0)",
                "leaving(0, -1)", "step(4)", "plan(5)", "fewest(2)");
        Sentence.refused(Due.ILLEGAL, MIXED, "add(1, 1, 3)", "finish(3)", "move(0, 3)", "move(3, 0)", "move(0, 0)",
                "exchange(0, 4)", "exchange(0, 3)", "ring(0, 1, 4)", "ring(0, 1, 3)", "close(3)", "open(0)", "without(3)");
        Sentence.refused(Due.ILLEGAL, MIXED + " setBudget(0)", "move(0, 1)", "exchange(0, 1)", "ring(0, 1, 2)", "close(0)");
        Sentence.refused(Due.ILLEGAL, "", "undo()");
        Sentence.refused(Due.ILLEGAL, "addServer() add(1, 1, 0) undo() undo()", "undo()");
        Sentence.refused(Due.FULL, "6*addServer() add(10, 1, 0) close(3)", "addServer()");
        Sentence.refused(Due.FULL, "2*addServer() 24*add(10, 1, 0)", "add(1, 1, 1)");
        Sentence.refused(Due.FULL, MIXED + " type(" + "m0 1;m0 0;".repeat(10) + ")", "append(59)");
        // On an empty history, and on one of a few states.
        Sentence.refused(Due.INVALID, "", "add(1, 1, 0)", "finish(0)", "setBudget(-1)", "setFactor(99)", "move(0, 0)",
                "exchange(0, 1)", "ring(0, 1, 2)", "even(0)", "close(0)", "open(0)", "append(0)");
        Sentence.refused(Due.ILLEGAL, "addServer() add(1, 1, 0)", "close(0)", "open(0)", "move(0, 0)");
    }

    private static final String FIRST = "If several error conditions apply, the method returns the one that its description"
            + " lists first; NONE is no error, and it is returned only if no error condition applies.";

    private static void firstError() {
        Sentence.ofTerms("3 7 8 9 14", FIRST);
        String closed = "2*addServer() 24*add(10, 1, 0) finish(1) close(1)";
        // Out of range, closed and full; closed and full; full alone.
        Sentence.refused(Due.INVALID, closed, "add(0, 1, 1)", "add(1001, 1, 1)", "add(1, -1, 1)", "add(1, 101, 1)",
                "add(0, 1, 0)", "add(1, 101, 0)", "add(1, 1, 2)", "add(1, 1, -1)");
        Sentence.refused(Due.ILLEGAL, closed, "add(1, 1, 1)", "add(1000, 100, 1)");
        Sentence.refused(Due.FULL, closed, "add(1, 1, 0)");
        // No such job and server before finished, closed, the same server, and no budget.
        String poor = MIXED + " setBudget(0)";
        Sentence.refused(Due.INVALID, poor, "move(5, 3)", "move(-1, 3)", "move(3, 4)", "move(3, -1)", "move(0, 4)", "move(5, 4)");
        Sentence.refused(Due.ILLEGAL, poor, "move(3, 3)", "move(0, 3)", "move(0, 0)", "move(3, 0)");
        Sentence.refused(Due.INVALID, poor, "exchange(3, 5)", "exchange(5, 3)", "exchange(3, 3)", "exchange(0, 0)",
                "exchange(-1, 0)", "exchange(-1, -1)");
        Sentence.refused(Due.ILLEGAL, poor, "exchange(0, 3)", "exchange(3, 0)", "exchange(0, 4)");
        Sentence.refused(Due.INVALID, poor, "ring(3, 3, 0)", "ring(3, 0, 3)", "ring(0, 3, 3)", "ring(3, 0, 5)", "ring(5, 3, 0)",
                "ring(0, 4, 0)", "ring(0, 4, 5)", "ring(0, -1, 4)");
        Sentence.refused(Due.ILLEGAL, poor, "ring(3, 0, 1)", "ring(0, 4, 1)", "ring(0, 4, 3)");
        String full = "addServer() type(" + "p1; ".repeat(25) + ")";
        Sentence.refused(Due.INVALID, full, "append(0)", "append(-1)", "append(256)");
        Sentence.refused(Due.FULL, full, "append(1)", "append(255)");
    }

    private static void noneIsNoError() {
        Sentence.ofTerms("19 20 21 23", FIRST);
        Sentence.row(MIXED + " job(3, 2)=NONE job(3, -1)=INVALID job(3, 4)=INVALID job(5, 2)=INVALID");
        Sentence.row(MIXED + " leaving(3, 0)=NONE leaving(3, -1)=INVALID leaving(4, 9)=INVALID leaving(-1, 9)=INVALID"
                + " leaving(4, -1)=INVALID");
        Sentence.row(MIXED + " step(0)=NONE step(3)=NONE step(-1)=INVALID step(4)=INVALID");
        Sentence.row("step(0)=NONE step(-1)=INVALID step(4)=INVALID");
        String far = "2*addServer() 8*add(10, 1, 0)";
        Sentence.row(far + " fewest(0)=NONE fewest(1)=NONE fewest(-1)=INVALID fewest(2)=INVALID");
        // NONE is no order's answer, and what answers it changes nothing.
        Sentence.same(MIXED, "job(3, 2)", Due.NONE);
        Sentence.same(MIXED, "leaving(3, 0)", Due.NONE);
        Sentence.same(MIXED, "step(0)", Due.NONE);
        Sentence.same(far, "fewest(0)", Due.NONE);
    }

    private static void finishedAndClosedExist() {
        Sentence.ofTerms("3 4 7 8 9 11 12 17 18 19 20 24", "A job that is finished, and a server that is closed, exists; but no job"
                + " can be moved from or to a closed server, and a finished job cannot be moved.");
        Sentence.row(MIXED + " count(0)=4 count(2)=5 job(3, 0)=7 job(3, 1)=7 job(3, 2)=NONE job(3, 3)=0 server(3, 0)=0"
                + " server(3, 1)=0 server(3, 2)=0 server(3, 3)=0 server(3, 4)=0 leaving(3, 0)=NONE");
        Sentence.refused(Due.ILLEGAL, MIXED, "finish(3)", "close(3)", "without(3)", "add(1, 1, 3)");
        Sentence.refused(Due.ILLEGAL, MIXED, "move(0, 3)", "move(1, 3)", "move(3, 0)", "move(3, 1)", "move(3, 3)",
                "exchange(3, 0)", "exchange(1, 3)", "ring(3, 0, 1)", "ring(0, 3, 1)", "ring(0, 1, 3)");
        Sentence.row(MIXED + " open(3)=4 move(0, 3)=30 job(0, 2)=3 addServer()=4");
    }

    private static void constants() {
        int[] values = {EvenLoads.INVALID_ARGUMENT, EvenLoads.ILLEGAL_STATE, EvenLoads.CAPACITY_EXCEEDED, EvenLoads.NONE};
        int[] want = {Due.INVALID, Due.ILLEGAL, Due.FULL, Due.NONE};
        String[] sentences = {
            "The constants: `INVALID_ARGUMENT = -1`: An argument is out of range, or names something that does not exist.",
            "`ILLEGAL_STATE = -2`: The call is not possible in the present state.",
            "`CAPACITY_EXCEEDED = -3`: There is no room.",
            "`NONE = -9`: There is no such value.",
        };
        String[] rows = {
            "addServer() server(0, 5)=-1 server(1, 0)=-1 add(0, 0, 0)=-1 add(1, 0, 1)=-1 finish(0)=-1 close(1)=-1",
            "undo()=-2 addServer() close(0)=-2 open(0)=-2 without(0)=-2",
            "6*addServer() addServer()=-3 24*add(1, 1, 0) add(1, 1, 0)=-3 type(" + " ".repeat(100) + ") append(32)=-3",
            "addServer() leaving(0, 0)=-9 step(0)=-9 add(1, 1, 0) finish(0) job(0, 2)=-9",
        };
        for (int i = 0; i < values.length; i++) {
            Sentence.ofTerms("1 to 24", sentences[i]);
            Due.due("the constant", values[i], want[i]);
            Sentence.row(rows[i]);
        }
    }
}
