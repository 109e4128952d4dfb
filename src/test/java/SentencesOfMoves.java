/** The sentences of the promises 7 to 13: move, exchange, ring, even, close, open, undo. */
final class SentencesOfMoves {
    private static final String ACTION = "This is an action.";
    private static final String MIXED = TermsOfUndo.MIXED;
    /** Jobs 0 (10, price 1), 1 (20, 2) and 2 (30, 4) on the servers 0, 1 and 2; the server 3 is empty. */
    private static final String THREE = "4*addServer() add(10, 1, 0) add(20, 2, 1) add(30, 4, 2)";

    private SentencesOfMoves() {
    }

    static void all() {
        move();
        moveAnswers();
        exchange();
        exchangeAnswers();
        ring();
        ringAnswers();
        even();
        close();
        closeAnswers();
        open();
        undo();
    }

    private static void move() {
        Sentence.of(7, "`int move(int job, int server)`: Moves a job.");
        Sentence.row(THREE + " move(0, 3)=30 job(0, 2)=3 job(0, 3)=1 server(0, 1)=0 server(0, 4)=0 server(3, 1)=10 server(3, 4)=1"
                + " job(1, 2)=1 job(1, 3)=0 job(2, 2)=2 job(2, 3)=0 count(10)=499 count(12)=1 count(4)=60");
        Sentence.of(7, ACTION);
        Sentence.action(THREE, "move(0, 3)", 30);
        Sentence.action(MIXED, "move(2, 0)", 45);
        Sentence.action("2*addServer() add(5, 0, 0)", "move(0, 1)", 5);
        Sentence.of(7, "`job`: a job");
        Sentence.row(THREE + " move(0, 3)=30 move(2, 3)=40 move(3, 3)=INVALID add(1, 1, 0) move(3, 3)=41");
        Sentence.row("2*addServer() 24*add(1, 1, 0) move(23, 1)=23 move(24, 1)=INVALID");
        Sentence.refused(Due.INVALID, THREE, "move(-1, 3)", "move(3, 3)", "move(24, 3)", "move(MIN, 3)", "move(MAX, 3)");
        Sentence.of(7, "`server`: a server");
        Sentence.row(THREE + " move(2, 0)=40 move(2, 3)=30 move(2, 4)=INVALID addServer() move(2, 4)=30");
        Sentence.row("6*addServer() add(1, 1, 0) move(0, 5)=1 move(0, 6)=INVALID");
        Sentence.refused(Due.INVALID, THREE, "move(0, -1)", "move(0, 4)", "move(0, 6)", "move(0, MIN)", "move(0, MAX)");
        Sentence.refused(Due.INVALID, "2*addServer() add(1, 1, 0) undo()", "move(0, 1)");
        Sentence.refused(Due.INVALID, "addServer() add(1, 1, 0) addServer() undo()", "move(0, 1)");
    }

    private static void moveAnswers() {
        Sentence.of(7, "Returns the greatest load then; INVALID_ARGUMENT if there are no such job and server; ILLEGAL_STATE if the"
                + " job is finished or is on this server, the server is closed, or the budget does not allow it.");
        // The greatest load is that of the server to which it goes, of another one, or of the one that it leaves.
        Sentence.row(THREE + " move(2, 1)=50 move(0, 3)=50 move(1, 0)=30 move(2, 3)=40");
        Sentence.row("2*addServer() add(30, 1, 0) add(40, 1, 0) add(5, 1, 0) move(2, 1)=70 count(5)=70");
        Sentence.refused(Due.INVALID, THREE, "move(3, 0)", "move(0, 4)", "move(3, 4)", "move(-1, -1)");
        Sentence.refused(Due.INVALID, "", "move(0, 0)");
        // Finished; on this server; closed; each alone, and not before or after it is so.
        Sentence.refused(Due.ILLEGAL, THREE + " finish(0)", "move(0, 0)", "move(0, 1)", "move(0, 3)");
        Sentence.row(THREE + " finish(0) move(0, 1)=ILLEGAL undo() move(0, 1)=30");
        Sentence.refused(Due.ILLEGAL, THREE, "move(0, 0)", "move(1, 1)", "move(2, 2)");
        Sentence.row(THREE + " move(0, 1)=30 move(0, 1)=ILLEGAL move(0, 0)=30 move(0, 0)=ILLEGAL");
        Sentence.refused(Due.ILLEGAL, THREE + " close(3)", "move(0, 3)", "move(2, 3)");
        Sentence.row(THREE + " close(3) move(0, 3)=ILLEGAL open(3) move(0, 3)=30");
        // The budget: just enough, and one less; a job without a price goes without a budget.
        Sentence.refused(Due.ILLEGAL, THREE + " setBudget(3)", "move(2, 3)");
        Sentence.row(THREE + " setBudget(4) move(2, 3)=30 count(10)=0 move(0, 3)=ILLEGAL");
        Sentence.row("2*addServer() add(1, 100, 0) add(1, 0, 0) setBudget(99) move(0, 1)=ILLEGAL setBudget(100) move(0, 1)=1"
                + " count(10)=0 move(1, 1)=2 count(10)=0");
    }

    private static void exchange() {
        Sentence.of(8, "`int exchange(int job, int other)`: Exchanges two jobs.");
        Sentence.row(THREE + " exchange(0, 2)=30 job(0, 2)=2 job(2, 2)=0 job(1, 2)=1 server(0, 4)=4 server(2, 4)=1 server(0, 1)=30"
                + " server(2, 1)=10 count(12)=2 count(10)=495 job(0, 3)=1 job(2, 3)=1 job(1, 3)=0");
        Sentence.row(THREE + " exchange(2, 0)=30 job(0, 2)=2 job(2, 2)=0 count(12)=2 count(10)=495");
        Sentence.of(8, ACTION);
        Sentence.action(THREE, "exchange(0, 1)", 30);
        Sentence.action(MIXED, "exchange(4, 2)", 40);
        Sentence.action("2*addServer() add(5, 1, 0) add(5, 1, 1)", "exchange(0, 1)", 5);
        Sentence.of(8, "`job`: a job");
        Sentence.refused(Due.INVALID, THREE, "exchange(-1, 0)", "exchange(3, 0)", "exchange(24, 0)", "exchange(MIN, 0)",
                "exchange(MAX, 0)");
        Sentence.row(THREE + " exchange(0, 1)=30 exchange(2, 1)=30 exchange(3, 1)=INVALID add(1, 1, 3) exchange(3, 1)=30");
        Sentence.row("2*addServer() 23*add(1, 1, 0) add(1, 1, 1) exchange(23, 0)=23 exchange(24, 0)=INVALID");
        Sentence.of(8, "`other`: another job");
        Sentence.refused(Due.INVALID, THREE, "exchange(0, -1)", "exchange(0, 3)", "exchange(0, 24)", "exchange(0, MIN)",
                "exchange(0, MAX)", "exchange(0, 0)", "exchange(1, 1)", "exchange(2, 2)");
        Sentence.row(THREE + " exchange(1, 0)=30 exchange(1, 2)=30 exchange(1, 3)=INVALID add(1, 1, 3) exchange(1, 3)=30");
        Sentence.row("2*addServer() 23*add(1, 1, 0) add(1, 1, 1) exchange(0, 23)=23 exchange(0, 24)=INVALID");
    }

    private static void exchangeAnswers() {
        Sentence.of(8, "Returns the greatest load then; INVALID_ARGUMENT if there are no such jobs, or both are the same;"
                + " ILLEGAL_STATE if one is finished, both are on the same server, or the budget does not allow it.");
        // 11, 20 and 30: the greatest load grows, falls, and is that of a third server.
        String start = THREE + " add(1, 0, 0)";
        Sentence.row(start + " exchange(0, 2)=31 exchange(0, 2)=30 exchange(0, 1)=30 exchange(3, 2)=50");
        Sentence.refused(Due.INVALID, start, "exchange(4, 4)", "exchange(-1, -1)", "exchange(-1, 4)", "exchange(3, 3)");
        Sentence.refused(Due.INVALID, "", "exchange(0, 1)", "exchange(0, 0)");
        Sentence.refused(Due.INVALID, start + " finish(0)", "exchange(0, 0)", "exchange(0, 4)");
        Sentence.refused(Due.ILLEGAL, start + " finish(0)", "exchange(0, 1)", "exchange(1, 0)", "exchange(0, 3)");
        Sentence.refused(Due.ILLEGAL, start + " finish(0) finish(1)", "exchange(0, 1)", "exchange(1, 0)");
        Sentence.row(start + " finish(0) exchange(0, 1)=ILLEGAL undo() exchange(0, 1)=30");
        Sentence.refused(Due.ILLEGAL, start, "exchange(0, 3)", "exchange(3, 0)");
        Sentence.row(start + " move(3, 1) exchange(1, 3)=ILLEGAL exchange(0, 3)=30 job(0, 2)=1 job(3, 2)=0");
        Sentence.refused(Due.ILLEGAL, start + " setBudget(5)", "exchange(1, 2)", "exchange(2, 1)");
        Sentence.row(start + " setBudget(6) exchange(1, 2)=30 count(10)=0 exchange(0, 1)=ILLEGAL");
        // Each price alone would be allowed, and both together are not.
        Sentence.refused(Due.ILLEGAL, "2*addServer() add(1, 100, 0) add(1, 100, 1) setBudget(199)", "exchange(0, 1)");
        Sentence.row("2*addServer() add(1, 100, 0) add(1, 100, 1) setBudget(200) exchange(0, 1)=1 count(10)=0");
        Sentence.row("2*addServer() add(1, 0, 0) add(1, 0, 1) setBudget(0) exchange(0, 1)=1 count(10)=0 count(12)=2");
    }

    private static void ring() {
        Sentence.of(9, "`int ring(int first, int second, int third)`: Moves three jobs in a ring.");
        Sentence.row(THREE + " ring(0, 1, 2)=30 job(0, 2)=1 job(1, 2)=2 job(2, 2)=0 server(0, 1)=30 server(1, 1)=10 server(2, 1)=20"
                + " count(12)=3 count(10)=493 job(0, 3)=1 job(1, 3)=1 job(2, 3)=1");
        Sentence.row(THREE + " ring(1, 2, 0)=30 job(0, 2)=1 job(1, 2)=2 job(2, 2)=0 ring(0, 2, 1)=30 job(0, 2)=0 job(1, 2)=1"
                + " job(2, 2)=2 ring(0, 2, 1)=30 job(0, 2)=2 job(1, 2)=0 job(2, 2)=1");
        Sentence.of(9, ACTION);
        Sentence.action(THREE, "ring(0, 1, 2)", 30);
        Sentence.action(MIXED, "ring(4, 1, 2)", 40);
        Sentence.action("3*addServer() add(5, 0, 0) add(5, 0, 1) add(5, 0, 2)", "ring(2, 0, 1)", 5);
        String[] parameters = {"`first`: a job", "`second`: another job", "`third`: another job"};
        String[] numbers = {"-1", "3", "24", "MIN", "MAX"};
        for (int place = 0; place < 3; place++) {
            Sentence.of(9, parameters[place]);
            for (String number : numbers) {
                String[] jobs = {"0", "1", "2"};
                jobs[place] = number;
                Sentence.refused(Due.INVALID, THREE, "ring(" + String.join(", ", jobs) + ")");
            }
            String[] last = {"0", "1", "2"};
            last[place] = "23";
            String full = THREE + " 20*add(1, 0, 0) add(1, 0, 3)";
            Sentence.row(full + " ring(" + String.join(", ", last) + ") job(23, 3)=1 job(" + place + ", 3)=0");
        }
        Sentence.refused(Due.INVALID, THREE, "ring(0, 0, 1)", "ring(1, 0, 0)", "ring(0, 1, 0)", "ring(2, 2, 2)");
    }

    private static void ringAnswers() {
        Sentence.of(9, "Returns the greatest load then; INVALID_ARGUMENT if there are no such jobs, or two are the same;"
                + " ILLEGAL_STATE if one is finished, two are on the same server, or the budget does not allow it.");
        String start = THREE + " add(1, 0, 0) add(2, 0, 1)";
        Sentence.row(start + " ring(0, 1, 2)=31 ring(2, 1, 0)=30 ring(2, 1, 0)=32");
        Sentence.row(start + " add(70, 0, 3) ring(0, 1, 2)=70");
        Sentence.refused(Due.INVALID, "", "ring(0, 1, 2)", "ring(0, 0, 0)");
        Sentence.refused(Due.INVALID, start + " finish(0)", "ring(0, 0, 1)", "ring(1, 0, 0)", "ring(0, 1, 0)", "ring(0, 1, 5)",
                "ring(1, 2, 1)");
        Sentence.refused(Due.INVALID, start, "ring(0, 3, 0)", "ring(0, 3, 5)", "ring(5, 0, 3)");
        Sentence.refused(Due.ILLEGAL, start + " finish(0)", "ring(0, 1, 2)", "ring(1, 0, 2)", "ring(1, 2, 0)");
        Sentence.refused(Due.ILLEGAL, start + " finish(0) finish(1) finish(2)", "ring(0, 1, 2)");
        Sentence.row(start + " finish(0) ring(0, 1, 2)=ILLEGAL undo() ring(0, 1, 2)=31");
        // The first two, the last two, the first and the last one on one server, and all three.
        Sentence.refused(Due.ILLEGAL, start + " add(3, 0, 0)", "ring(0, 3, 1)", "ring(1, 0, 3)", "ring(0, 1, 3)", "ring(0, 3, 5)");
        Sentence.refused(Due.ILLEGAL, start + " setBudget(6)", "ring(0, 1, 2)", "ring(2, 1, 0)");
        Sentence.row(start + " setBudget(7) ring(0, 1, 2)=31 count(10)=0 ring(0, 1, 2)=ILLEGAL");
        String dear = "3*addServer() add(1, 100, 0) add(1, 100, 1) add(1, 100, 2)";
        Sentence.refused(Due.ILLEGAL, dear + " setBudget(299)", "ring(0, 1, 2)");
        Sentence.row(dear + " setBudget(300) ring(0, 1, 2)=1 count(10)=0");
        Sentence.row("3*addServer() add(1, 0, 0) add(1, 0, 1) add(1, 0, 2) setBudget(0) ring(0, 1, 2)=1 count(12)=3");
    }

    private static void even() {
        Sentence.of(10, "`int even(int steps)`: Does the first steps of the plan.");
        String start = "3*addServer() 6*add(10, 1, 0) setFactor(100)";
        // 50 10 0, 40 20 0, 30 30 0, 20 30 10, 20 20 20.
        Sentence.row(start + " even(1)=1 server(0, 1)=50 server(1, 1)=10 count(12)=1 count(10)=499 even(1)=1 server(1, 1)=20"
                + " even(2)=2 server(0, 1)=20 server(1, 1)=30 server(2, 1)=10 count(12)=4 even(1)=1 count(5)=20 job(0, 3)=2");
        Sentence.row(start + " even(4)=4 server(0, 1)=20 server(1, 1)=30 server(2, 1)=10");
        Sentence.row("2*addServer() add(10, 1, 0) add(9, 2, 0) add(7, 4, 1) add(8, 8, 1) setFactor(100) even(1)=1 job(1, 2)=1"
                + " job(2, 2)=0 count(12)=2 count(10)=494 job(1, 3)=1 job(2, 3)=1 server(0, 1)=17 server(1, 1)=17");
        Sentence.of(10, ACTION);
        Sentence.action(start, "even(3)", 3);
        Sentence.action(start, "even(30)", 5);
        Sentence.action(MIXED, "even(1)", 0);
        Sentence.action("", "even(30)", 0);
        Sentence.action(MIXED + " open(3) setFactor(100) add(30, 1, 1)", "even(30)", 1);
        Sentence.of(10, "`steps`: 1 to 30");
        Sentence.refused(Due.INVALID, start, "even(0)", "even(31)", "even(-1)", "even(MIN)", "even(MAX)");
        Sentence.refused(Due.INVALID, "", "even(0)", "even(31)");
        Sentence.refused(Due.INVALID, MIXED, "even(0)", "even(31)");
        Sentence.row("6*addServer() 24*add(7, 1, 0) setFactor(100) even(30)=30 undo() even(29)=29 undo() even(1)=1 undo()"
                + " even(2)=2 undo() even(31)=INVALID");
        Sentence.of(10, "Returns the number of steps that are done, 0 if the plan has none; INVALID_ARGUMENT if steps is out of"
                + " range.");
        Sentence.row(start + " even(5)=5 even(5)=0 even(1)=0 count(13)=5 even(0)=INVALID");
        Sentence.row(start + " even(6)=5");
        Sentence.row(start + " even(30)=5 even(30)=0");
        Sentence.row(start + " setBudget(3) even(30)=3 count(10)=0 even(30)=0 setBudget(2) even(30)=2 count(9)=1");
        Sentence.row("even(1)=0 addServer() even(1)=0 add(10, 1, 0) even(1)=0 even(30)=0");
    }

    private static void close() {
        Sentence.of(11, "`int close(int server)`: Closes a server.");
        Sentence.row(THREE + " add(9, 8, 2) close(2)=2 server(2, 0)=0 server(2, 1)=0 server(2, 2)=0 count(0)=4 count(1)=3"
                + " job(2, 2)=3 job(3, 2)=0 count(12)=2 count(10)=488 job(2, 3)=1 job(3, 3)=1 job(0, 3)=0");
        Sentence.of(11, ACTION);
        Sentence.action(THREE, "close(2)", 1);
        Sentence.action("2*addServer()", "close(0)", 0);
        Sentence.action("2*addServer() 24*add(1, 1, 1)", "close(1)", 24);
        Sentence.action(MIXED, "close(0)", 2);
        Sentence.of(11, "`server`: a server");
        Sentence.row(THREE + " close(0)=1 close(4)=INVALID addServer() close(4)=0 close(3)=1");
        Sentence.row("6*addServer() close(5)=0 close(6)=INVALID close(0)=0 close(-1)=INVALID");
        Sentence.refused(Due.INVALID, THREE, "close(-1)", "close(4)", "close(6)", "close(MIN)", "close(MAX)");
        Sentence.refused(Due.INVALID, "", "close(0)", "close(-1)");
        Sentence.refused(Due.INVALID, "2*addServer() undo()", "close(1)");
    }

    private static void closeAnswers() {
        Sentence.of(11, "Returns the number of moves; INVALID_ARGUMENT if there is no such server; ILLEGAL_STATE if it is closed, it"
                + " is the only open one, or the budget does not allow it.");
        Sentence.row(THREE + " close(3)=0 close(2)=1 close(1)=1 close(0)=ILLEGAL");
        Sentence.row("2*addServer() 24*add(1000, 0, 0) close(0)=24 open(0) close(1)=24 open(1) finish(3) finish(4) close(0)=22");
        Sentence.refused(Due.ILLEGAL, THREE + " close(0)", "close(0)");
        Sentence.row(THREE + " close(0) close(0)=ILLEGAL open(0) close(0)=0");
        Sentence.refused(Due.ILLEGAL, "addServer()", "close(0)");
        Sentence.refused(Due.ILLEGAL, "2*addServer() add(1, 1, 0) close(0)", "close(1)", "close(0)");
        Sentence.refused(Due.ILLEGAL, "6*addServer() add(1, 1, 0) close(1) close(2) close(3) close(4) close(5)", "close(0)");
        Sentence.row("6*addServer() close(5)=0 close(4)=0 close(3)=0 close(2)=0 close(1)=0 close(0)=ILLEGAL open(5)=2 close(0)=0");
        // The budget for all its jobs together: just enough, one less, and enough for each one alone.
        String start = THREE + " add(9, 8, 2)";
        Sentence.refused(Due.ILLEGAL, start + " setBudget(11)", "close(2)");
        Sentence.row(start + " setBudget(12) close(2)=2 count(10)=0 close(0)=ILLEGAL close(3)=ILLEGAL close(1)=ILLEGAL");
        Sentence.row(start + " setBudget(0) close(3)=0 close(2)=ILLEGAL server(2, 2)=2");
        Sentence.row("2*addServer() 3*add(1, 0, 0) setBudget(0) close(0)=3 count(12)=3");
        // The finished jobs and those of other servers are not paid.
        Sentence.row(start + " finish(3) setBudget(4) close(2)=1 count(10)=0");
    }

    private static void open() {
        Sentence.of(12, "`int open(int server)`: Opens a closed server.");
        Sentence.row(MIXED + " open(3)=4 server(3, 0)=1 server(3, 1)=0 server(3, 2)=0 count(1)=4 count(0)=4 count(12)=0"
                + " add(1, 1, 3)=5 move(0, 3) close(3)=2");
        Sentence.of(12, ACTION);
        Sentence.action(MIXED, "open(3)", 4);
        Sentence.action("2*addServer() close(0)", "open(0)", 2);
        Sentence.of(12, "`server`: a server");
        Sentence.refused(Due.INVALID, MIXED, "open(-1)", "open(4)", "open(6)", "open(MIN)", "open(MAX)");
        Sentence.refused(Due.INVALID, "", "open(0)", "open(-1)");
        Sentence.row("6*addServer() close(0) close(5) open(0)=5 open(5)=6 open(6)=INVALID");
        Sentence.refused(Due.INVALID, "2*addServer() close(1) 2*undo()", "open(1)");
        Sentence.of(12, "Returns the number of open servers then; INVALID_ARGUMENT if there is no such server; ILLEGAL_STATE if it is"
                + " open.");
        Sentence.row("6*addServer() close(0) close(1) close(2) close(3) close(4) open(3)=2 open(0)=3 open(4)=4 open(1)=5"
                + " open(2)=6 open(2)=ILLEGAL");
        Sentence.refused(Due.ILLEGAL, MIXED, "open(0)", "open(1)", "open(2)");
        Sentence.refused(Due.ILLEGAL, "addServer()", "open(0)");
        Sentence.refused(Due.ILLEGAL, MIXED + " open(3)", "open(3)");
        Sentence.row(MIXED + " open(3)=4 open(3)=ILLEGAL undo() open(3)=4");
    }

    private static void undo() {
        Sentence.of(13, "`int undo()`: Removes the latest state from the history and restores it.");
        Sentence.row("setBudget(1) setBudget(2) undo()=1 count(10)=1 undo()=0 count(10)=500 count(13)=0");
        Sentence.row(MIXED + " undo() server(3, 0)=1 count(1)=4 undo() job(3, 2)=0 count(3)=0 undo() count(2)=4 undo() count(2)=3"
                + " undo() count(2)=2 undo()=ILLEGAL");
        Sentence.row("3*addServer() add(5, 1, 0) add(6, 1, 0) close(0)=2 job(0, 2)=2 undo() job(0, 2)=0 job(1, 2)=0 count(10)=500"
                + " count(12)=0 close(0)=2 finish(0) open(0) undo() server(0, 0)=0 undo() job(0, 2)=2 undo() server(0, 0)=1");
        Sentence.of(13, "Returns the number of states that are left in the history; ILLEGAL_STATE if it is empty.");
        Sentence.row("undo()=ILLEGAL addServer() undo()=0 undo()=ILLEGAL undo()=ILLEGAL count(13)=0");
        Sentence.row("5*setFactor(200) undo()=4 undo()=3 undo()=2 undo()=1 undo()=0 undo()=ILLEGAL");
        Sentence.row("6*setFactor(200) undo()=4 undo()=3 undo()=2 undo()=1 undo()=0 undo()=ILLEGAL count(11)=200");
        Sentence.refused(Due.ILLEGAL, "", "undo()");
        Sentence.refused(Due.ILLEGAL, MIXED + " 5*undo()", "undo()");
        Sentence.row("undo()=ILLEGAL addServer()=0 count(13)=1 undo()=0 undo()=ILLEGAL");
    }
}
