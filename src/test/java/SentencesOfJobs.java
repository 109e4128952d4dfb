/** The sentences of the promises 1 to 6: a new object, addServer, add, finish, setBudget, setFactor. */
final class SentencesOfJobs {
    private static final String ACTION = "This is an action.";
    private static final String MIXED = TermsOfUndo.MIXED;

    private SentencesOfJobs() {
    }

    static void all() {
        newObject();
        callsOfAnObject();
        addServer();
        add();
        addRanges();
        addAnswers();
        finish();
        setBudget();
        setFactor();
    }

    private static void newObject() {
        Sentence.of(1, "`EvenLoads()`: Creates no servers and no jobs, and an empty text.");
        Sentence.row("count(0)=0 count(1)=0 count(2)=0 count(3)=0 count(4)=0 count(5)=0 count(6)=0 count(7)=0 count(8)=0"
                + " count(9)=1 count(10)=500 count(11)=120 count(12)=0 count(13)=0 count(14)=0 count(15)=INVALID");
        Sentence.row("server(0, 0)=INVALID job(0, 0)=INVALID leaving(0, 0)=INVALID without(0)=INVALID");
        Sentence.row("step(0)=NONE step(1)=NONE step(2)=NONE step(3)=NONE plan(0)=0 plan(1)=0 plan(2)=0 plan(3)=0 plan(4)=1"
                + " fewest(0)=0 fewest(1)=0");
        Sentence.row("clearText()=0 undo()=ILLEGAL");
        Sentence.row("run()=0 clearText()=0");
        // One object knows nothing of another one.
        Told other = Told.of("6*addServer() 24*add(1, 1, 0) type(p1;) setBudget(9) setFactor(400)");
        Sentence.row("count(0)=0 count(2)=0 count(14)=0 count(10)=500 count(11)=120 addServer()=0 add(5, 6, 0)=0 append(32)=1");
        other.does("count(0)=6 count(2)=24 count(14)=3 count(10)=9 count(11)=400");
    }

    private static void callsOfAnObject() {
        Sentence.ofAll("An object is used for at most 512 calls after it has been made; what later calls answer is free.");
        // The last call but one, and the last one, answer as the first ones do.
        Told moves = Told.of("2*addServer() add(3, 0, 0)");
        for (int i = 0; i < 253; i++) {
            moves.does("move(0, 1)=3 move(0, 0)=3");
        }
        moves.does("job(0, 3)=506 count(12)=506 count(13)=5");
        Told undone = Told.of("addServer()");
        for (int i = 0; i < 255; i++) {
            undone.does("addServer()=1 undo()=1");
        }
        undone.does("count(0)=1");
        Told added = Told.of("6*addServer() 504*addServer()=FULL");
        added.does("count(0)=6 undo()=4");
    }

    private static void addServer() {
        Sentence.of(2, "`int addServer()`: Adds a server, which is open.");
        Sentence.row("server(0, 0)=INVALID addServer()=0 server(0, 0)=1 server(0, 1)=0 server(0, 2)=0 server(0, 4)=0 count(0)=1"
                + " count(1)=1");
        Sentence.row("5*addServer() server(5, 0)=INVALID addServer()=5 server(5, 0)=1 server(5, 1)=0 server(5, 2)=0"
                + " server(5, 4)=0 count(0)=6 count(1)=6");
        // Open again, where a closed one was and the addition of it was undone.
        Sentence.row("2*addServer() close(1) 2*undo() addServer()=1 server(1, 0)=1 count(1)=2 add(5, 5, 1)=0");
        Sentence.row("3*addServer() close(0) close(1) addServer()=3 server(3, 0)=1 server(0, 0)=0 count(1)=2");
        Sentence.of(2, ACTION);
        Sentence.action("", "addServer()", 0);
        for (int servers = 1; servers < 6; servers++) {
            Sentence.action(servers + "*addServer()", "addServer()", servers);
        }
        Sentence.action(MIXED, "addServer()", 4);
        Sentence.of(2, "Returns its number; CAPACITY_EXCEEDED if there are 6.");
        Sentence.row("addServer()=0 addServer()=1 addServer()=2 addServer()=3 addServer()=4 addServer()=5 addServer()=FULL");
        Sentence.refused(Due.FULL, "6*addServer()", "addServer()");
        Sentence.refused(Due.FULL, "6*addServer() add(1, 1, 5) close(5) close(0)", "addServer()");
        Sentence.row("6*addServer() addServer()=FULL undo()=4 addServer()=5 addServer()=FULL");
    }

    private static void add() {
        Sentence.of(3, "`int add(int size, int price, int server)`: Adds a job.");
        Sentence.row("2*addServer() add(12, 34, 1)=0 count(2)=1 job(0, 0)=12 job(0, 1)=34 job(0, 2)=1 job(0, 3)=0 server(1, 1)=12"
                + " server(1, 2)=1 server(1, 4)=1 server(0, 2)=0 count(4)=12 count(5)=12 count(12)=0 count(10)=500");
        Sentence.row("2*addServer() add(12, 34, 1) add(56, 78, 0)=1 job(0, 0)=12 job(0, 1)=34 job(0, 2)=1 job(1, 0)=56"
                + " job(1, 1)=78 job(1, 2)=0 server(0, 4)=2 server(1, 4)=1 count(4)=68 count(5)=56");
        // What stood there before and was undone does not come back.
        Sentence.row("2*addServer() add(5, 5, 0) move(0, 1) 2*undo() add(6, 7, 0)=0 job(0, 0)=6 job(0, 1)=7 job(0, 3)=0"
                + " server(1, 1)=0 server(0, 1)=6");
        Sentence.row("addServer() add(5, 5, 0) finish(0) 2*undo() add(6, 7, 0)=0 job(0, 2)=0 count(3)=0");
        Sentence.of(3, ACTION);
        Sentence.action("addServer()", "add(1, 0, 0)", 0);
        Sentence.action("2*addServer() add(5, 5, 0)", "add(1000, 100, 1)", 1);
        Sentence.action(MIXED, "add(3, 3, 2)", 5);
        Sentence.action("addServer() 23*add(9, 9, 0)", "add(9, 9, 0)", 23);
    }

    private static void addRanges() {
        String start = "3*addServer() add(10, 1, 0) add(20, 2, 1) add(30, 4, 2)";
        Sentence.of(3, "`size`: 1 to 1000");
        Sentence.row(start + " add(1, 5, 0)=3 job(3, 0)=1 server(0, 1)=11 add(1000, 5, 0)=4 job(4, 0)=1000 server(0, 1)=1011"
                + " add(2, 5, 1)=5 add(999, 5, 1)=6 job(6, 0)=999");
        Sentence.refused(Due.INVALID, start, "add(0, 5, 0)", "add(1001, 5, 0)", "add(-1, 5, 0)", "add(MIN, 5, 0)",
                "add(MAX, 5, 0)");
        Sentence.of(3, "`price`: 0 to 100");
        Sentence.row(start + " add(5, 0, 0)=3 job(3, 1)=0 add(5, 100, 0)=4 job(4, 1)=100 add(5, 1, 1)=5 add(5, 99, 1)=6"
                + " job(6, 1)=99");
        Sentence.refused(Due.INVALID, start, "add(5, -1, 0)", "add(5, 101, 0)", "add(5, MIN, 0)", "add(5, MAX, 0)");
        Sentence.of(3, "`server`: a server");
        Sentence.row(start + " add(5, 5, 0)=3 job(3, 2)=0 add(5, 5, 2)=4 job(4, 2)=2");
        Sentence.row("6*addServer() add(5, 5, 5)=0 job(0, 2)=5 server(5, 1)=5 add(5, 5, 6)=INVALID");
        Sentence.refused(Due.INVALID, start, "add(5, 5, -1)", "add(5, 5, 3)", "add(5, 5, 6)", "add(5, 5, MIN)", "add(5, 5, MAX)");
        Sentence.refused(Due.INVALID, "", "add(5, 5, 0)", "add(5, 5, -1)");
        Sentence.refused(Due.INVALID, "addServer() undo()", "add(5, 5, 0)");
    }

    private static void addAnswers() {
        Sentence.of(3, "Returns its number; INVALID_ARGUMENT if an argument is out of range; ILLEGAL_STATE if the server is"
                + " closed; CAPACITY_EXCEEDED if there are 24 jobs, finished ones included.");
        Sentence.row("2*addServer() add(5, 5, 1)=0 add(5, 5, 0)=1 finish(1) add(5, 5, 0)=2 undo() add(5, 5, 0)=2");
        // Closed: not at first, not when it is open again.
        String closed = "3*addServer() add(10, 1, 0) add(20, 2, 1) close(1)";
        Sentence.refused(Due.ILLEGAL, closed, "add(1, 0, 1)", "add(1000, 100, 1)");
        Sentence.refused(Due.INVALID, closed, "add(0, 0, 1)", "add(1001, 0, 1)", "add(1, -1, 1)", "add(1, 101, 1)");
        Sentence.row(closed + " add(1, 0, 0)=2 add(1, 0, 2)=3 open(1) add(1, 0, 1)=4");
        // Room: the 24th job is the last one, also if others are finished.
        Sentence.row("addServer() 23*add(1, 0, 0) add(1, 0, 0)=23 add(1, 0, 0)=FULL undo() add(1, 0, 0)=23");
        Sentence.refused(Due.FULL, "addServer() 24*add(1, 0, 0)", "add(1, 0, 0)", "add(1000, 100, 0)");
        Sentence.refused(Due.FULL, "addServer() 24*add(1, 0, 0) finish(0) finish(23)", "add(1, 0, 0)");
        Sentence.row("addServer() 23*add(1, 0, 0) finish(3) add(1, 0, 0)=23 finish(23) add(1, 0, 0)=FULL");
        Sentence.refused(Due.INVALID, "addServer() 24*add(1, 0, 0)", "add(0, 0, 0)", "add(1, 101, 0)", "add(1, 0, 1)");
        Sentence.refused(Due.ILLEGAL, "2*addServer() 24*add(1, 0, 0) close(1)", "add(1, 0, 1)");
        Sentence.row("addServer() add(1, 0, 0) finish(0) 22*add(1, 0, 0) add(1, 0, 0)=23 add(1, 0, 0)=FULL count(2)=24"
                + " count(3)=1");
    }

    private static void finish() {
        Sentence.of(4, "`int finish(int job)`: Finishes a job.");
        String start = "2*addServer() add(10, 1, 0) add(20, 2, 0) add(5, 3, 1)";
        Sentence.row(start + " finish(1)=10 job(1, 0)=20 job(1, 1)=2 job(1, 2)=NONE job(1, 3)=0 server(0, 1)=10 server(0, 2)=1"
                + " server(0, 4)=1 server(1, 1)=5 count(2)=3 count(3)=1 count(4)=15 count(5)=10 count(10)=500 count(12)=0");
        Sentence.row(start + " move(1, 1) finish(1)=5 job(1, 3)=1 count(12)=1 server(1, 4)=4");
        Sentence.of(4, ACTION);
        Sentence.action(start, "finish(0)", 20);
        Sentence.action("addServer() add(3, 3, 0)", "finish(0)", 0);
        Sentence.action(MIXED, "finish(4)", 10);
        Sentence.of(4, "`job`: a job");
        Sentence.row(start + " finish(0)=20 finish(2)=0 finish(3)=INVALID");
        Sentence.row("addServer() 24*add(1, 1, 0) finish(0)=23 finish(23)=22 finish(24)=INVALID");
        Sentence.refused(Due.INVALID, start, "finish(-1)", "finish(3)", "finish(24)", "finish(MIN)", "finish(MAX)");
        Sentence.refused(Due.INVALID, "", "finish(0)", "finish(-1)");
        Sentence.refused(Due.INVALID, "addServer() add(1, 1, 0) undo()", "finish(0)");
        Sentence.of(4, "Returns the load of the server on which it was, then; INVALID_ARGUMENT if there is no such job;"
                + " ILLEGAL_STATE if it is finished.");
        Sentence.row(start + " finish(0)=20 finish(1)=0 finish(2)=0 count(4)=0 count(3)=3");
        Sentence.row(start + " move(0, 1) finish(0)=5 finish(1)=0");
        Sentence.row("addServer() 24*add(1000, 1, 0) finish(7)=23000");
        Sentence.refused(Due.ILLEGAL, start + " finish(1)", "finish(1)");
        Sentence.refused(Due.ILLEGAL, "addServer() add(1, 1, 0) finish(0)", "finish(0)");
        Sentence.row(start + " finish(1) finish(1)=ILLEGAL undo() finish(1)=10 finish(1)=ILLEGAL");
    }

    private static void setBudget() {
        Sentence.of(5, "`int setBudget(int budget)`: Sets the budget.");
        Sentence.row("setBudget(77) count(10)=77 2*addServer() add(5, 77, 0) add(5, 1, 0) move(0, 1) count(10)=0"
                + " move(1, 1)=ILLEGAL setBudget(1) move(1, 1)=10 count(12)=2");
        Sentence.of(5, ACTION);
        Sentence.action("", "setBudget(0)", 500);
        Sentence.action("setBudget(10000)", "setBudget(10000)", 10000);
        Sentence.action(MIXED, "setBudget(499)", 500);
        Sentence.of(5, "`budget`: 0 to 10000");
        Sentence.row("setBudget(0)=500 count(10)=0 setBudget(10000)=0 count(10)=10000 setBudget(1)=10000 setBudget(9999)=1"
                + " count(10)=9999");
        Sentence.refused(Due.INVALID, MIXED, "setBudget(-1)", "setBudget(10001)", "setBudget(MIN)", "setBudget(MAX)");
        Sentence.refused(Due.INVALID, "", "setBudget(-1)", "setBudget(10001)");
        Sentence.of(5, "Returns what was left of the previous one; INVALID_ARGUMENT if budget is out of range.");
        Sentence.row("2*addServer() add(5, 30, 0) setBudget(100)=500 move(0, 1) setBudget(100)=70 setBudget(30)=100 move(0, 0)"
                + " setBudget(5)=0 setBudget(-1)=INVALID setBudget(5)=5");
    }

    private static void setFactor() {
        Sentence.of(6, "`int setFactor(int factor)`: Sets the factor.");
        Sentence.row("setFactor(250) count(11)=250 addServer() add(10, 0, 0) count(8)=25 setFactor(130) count(11)=130 count(8)=13");
        Sentence.of(6, ACTION);
        Sentence.action("", "setFactor(100)", 0);
        Sentence.action("addServer() add(10, 0, 0)", "setFactor(400)", 40);
        Sentence.action(MIXED, "setFactor(121)", 36);
        Sentence.of(6, "`factor`: 100 to 400");
        Sentence.row("setFactor(100)=0 count(11)=100 setFactor(400)=0 count(11)=400 setFactor(101)=0 setFactor(399)=0"
                + " count(11)=399");
        Sentence.refused(Due.INVALID, MIXED, "setFactor(99)", "setFactor(401)", "setFactor(0)", "setFactor(-100)",
                "setFactor(MIN)", "setFactor(MAX)");
        Sentence.refused(Due.INVALID, "", "setFactor(99)", "setFactor(401)");
        Sentence.of(6, "Returns the target then; INVALID_ARGUMENT if factor is out of range.");
        Sentence.row("setFactor(300)=0 2*addServer() setFactor(300)=0 add(10, 0, 0) setFactor(300)=30 add(11, 0, 0)"
                + " setFactor(100)=11 setFactor(109)=11 setFactor(110)=12 setFactor(401)=INVALID count(8)=12");
        Sentence.row("addServer() 24*add(1000, 0, 0) setFactor(400)=96000 setFactor(399)=95760 setFactor(100)=24000");
    }
}
