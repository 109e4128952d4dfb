/** The sentences of the Terms on servers and jobs, bound and target, and moves. */
final class TermsOfLoads {
    private TermsOfLoads() {
    }

    static void all() {
        quotients();
        servers();
        jobs();
        finishedForGood();
        loads();
        closedServers();
        boundByAverage();
        boundByGreatest();
        target();
        evenLoads();
        onlyOpenServer();
        moves();
        exchangesAndRings();
        movesAreCounted();
        budgetForCalls();
        budgetForSteps();
    }

    private static void quotients() {
        Sentence.ofTerms("6 17 18", "All numbers are whole; quotients are rounded down, where it is not told"
                + " that they are rounded up.");
        // 9 * 1.11 is 9.99, 9 * 1.12 is 10.08; 25 * 1.04 is 26 exactly, 25 * 1.03 is 25.75.
        Sentence.row("addServer() add(9, 0, 0) setFactor(111)=9 count(8)=9 setFactor(112)=10 count(8)=10");
        Sentence.row("addServer() add(25, 0, 0) setFactor(104)=26 setFactor(103)=25");
        Sentence.row("2*addServer() add(1, 0, 0) add(2, 0, 1) server(0, 3)=333 server(1, 3)=666");
        // Of 1000 in all 1 is one thousandth; of 1001 it is 0.999, and 999 are 998.001.
        Sentence.row("2*addServer() add(999, 0, 0) add(1, 0, 1) server(0, 3)=999 server(1, 3)=1"
                + " add(1, 0, 0) server(1, 3)=0 finish(2) add(1, 0, 1) server(0, 3)=998 server(1, 3)=1");
        // The bound alone is rounded up: 3 by 2 is 2, and then 2 * 1.2 is 2.4.
        Sentence.row("2*addServer() 3*add(1, 0, 0) count(7)=2 count(8)=2");
    }

    private static void servers() {
        Sentence.ofTerms("2 17 18", "There are at most 6 servers, numbered from 0; a server is open (at first)"
                + " or closed.");
        Sentence.row("count(0)=0 server(0, 0)=INVALID addServer()=0 server(0, 0)=1 server(1, 0)=INVALID");
        Sentence.row("5*addServer() count(0)=5 server(4, 0)=1 server(5, 0)=INVALID addServer()=5 count(0)=6"
                + " server(5, 0)=1 server(6, 0)=INVALID addServer()=FULL count(0)=6 server(6, 0)=INVALID");
        Sentence.row("6*addServer() close(5) server(5, 0)=0 server(4, 0)=1 count(0)=6 count(1)=5 open(5)"
                + " server(5, 0)=1");
        Sentence.row("6*addServer() close(0) close(5) addServer()=FULL");
    }

    private static void jobs() {
        Sentence.ofTerms("3 19", "There are at most 24 jobs, numbered from 0, each with a size (1 to 1000), a"
                + " price for moving it (0 to 100), and the server on which it is; a job can be finished, and"
                + " is on no server then, for good.");
        Sentence.row("2*addServer() add(1, 0, 1)=0 job(0, 0)=1 job(0, 1)=0 job(0, 2)=1 job(1, 0)=INVALID");
        Sentence.row("2*addServer() add(1000, 100, 0)=0 job(0, 0)=1000 job(0, 1)=100 job(0, 2)=0");
        Sentence.row("addServer() add(0, 0, 0)=INVALID add(1001, 0, 0)=INVALID add(1, -1, 0)=INVALID"
                + " add(1, 101, 0)=INVALID add(1, 0, -1)=INVALID add(1, 0, 1)=INVALID count(2)=0");
        Sentence.row("addServer() 23*add(1, 1, 0) count(2)=23 job(23, 0)=INVALID add(9, 8, 0)=23 count(2)=24"
                + " job(23, 0)=9 job(23, 1)=8 job(23, 2)=0 job(24, 0)=INVALID add(1, 1, 0)=FULL count(2)=24"
                + " job(24, 0)=INVALID");
        Sentence.row("addServer() 24*add(1, 1, 0) 3*undo() add(2, 2, 0)=21 add(2, 2, 0)=22 add(2, 2, 0)=23"
                + " add(2, 2, 0)=FULL");
    }

    private static void finishedForGood() {
        String start = "3*addServer() add(5, 1, 0) add(6, 1, 1) add(7, 1, 2) finish(0)";
        Sentence.row(start + " job(0, 2)=NONE server(0, 2)=0 server(1, 2)=1 server(2, 2)=1 count(3)=1 count(4)=13");
        Sentence.row(start + " close(0)=0 open(0) job(0, 2)=NONE");
        Sentence.row(start + " add(9, 9, 0)=3 job(0, 2)=NONE job(0, 0)=5 close(1) close(2) even(30) open(1) even(30)"
                + " job(0, 2)=NONE");
        Sentence.refused(Due.ILLEGAL, start, "finish(0)", "move(0, 0)", "move(0, 1)", "exchange(0, 1)",
                "exchange(1, 0)", "ring(0, 1, 2)", "ring(1, 0, 2)", "ring(1, 2, 0)");
        Sentence.row(start + " undo() job(0, 2)=0 finish(0)=0 job(0, 2)=NONE");
    }

    private static void loads() {
        Sentence.ofTerms("18", "The load of a server is the sum of the sizes of the jobs on it.");
        Sentence.row("2*addServer() server(0, 1)=0 add(3, 0, 0) server(0, 1)=3 add(4, 0, 0) server(0, 1)=7"
                + " server(1, 1)=0");
        Sentence.row("2*addServer() add(3, 0, 0) add(4, 0, 0) add(9, 0, 1) move(1, 1) server(0, 1)=3"
                + " server(1, 1)=13 finish(1) server(1, 1)=9 exchange(0, 2) server(0, 1)=9 server(1, 1)=3"
                + " finish(2) server(0, 1)=0 close(0) server(1, 1)=3 close(1)=ILLEGAL");
        Sentence.row("2*addServer() 24*add(1000, 0, 1) server(1, 1)=24000 server(0, 1)=0 count(4)=24000"
                + " count(5)=24000 move(23, 0)=23000 server(0, 1)=1000 server(1, 1)=23000");
        Sentence.row("3*addServer() add(3, 0, 0) add(4, 0, 1) add(5, 0, 2) ring(0, 1, 2) server(0, 1)=5"
                + " server(1, 1)=3 server(2, 1)=4 close(1) server(0, 1)=5 server(1, 1)=0 server(2, 1)=7");
    }

    private static void closedServers() {
        Sentence.ofTerms("3 7 8 9 10 11 12 18 20", "A closed server has no jobs.");
        String closed = "3*addServer() add(5, 0, 0) add(6, 0, 0) add(7, 0, 1) close(0)";
        Sentence.row(closed + " server(0, 0)=0 server(0, 1)=0 server(0, 2)=0 server(0, 3)=0 server(0, 4)=0"
                + " leaving(0, 0)=NONE");
        Sentence.refused(Due.ILLEGAL, closed, "add(1, 0, 0)", "move(0, 0)", "close(0)", "without(0)");
        Sentence.row(closed + " open(0) server(0, 1)=0 server(0, 2)=0 server(0, 4)=0 leaving(0, 0)=NONE");
        Sentence.row(closed + " close(2)=2 server(2, 2)=0 server(0, 2)=0 server(1, 2)=3");
        // The plan goes by it, though of the empty servers its number is the smallest.
        Sentence.row("3*addServer() 2*add(10, 0, 1) close(0) step(1)=2 even(30)=1 server(0, 2)=0 server(2, 2)=1");
    }

    private static final String BOUND = "The bound is the greater one of these: the sum of the loads of all servers"
            + " divided by the number of open servers, rounded up; and the greatest size of a job that is not"
            + " finished (0 if there is none).";

    private static void boundByAverage() {
        Sentence.ofTerms("6 10 17 21 22 23", BOUND);
        Sentence.row("count(7)=0 addServer() count(7)=0");
        // 12 by 3 is 4; 13 by 3 is a bit more, 15 by 3 is 5, 16 by 3 is a bit more.
        Sentence.row("3*addServer() 3*add(4, 0, 0) count(7)=4 add(1, 0, 1) count(7)=5 2*add(1, 0, 1) count(7)=5"
                + " add(1, 0, 2) count(7)=6");
        Sentence.row("6*addServer() 6*add(1, 0, 0) count(7)=1 add(1, 0, 0) count(7)=2 5*add(1, 0, 0) count(7)=2"
                + " add(1, 0, 0) count(7)=3");
        // By the open servers alone: 12 by 3, by 2, by 1, and by 3 again.
        Sentence.row("3*addServer() 3*add(4, 0, 0) count(7)=4 close(2) count(7)=6 close(0) count(7)=12 open(0)"
                + " count(7)=6 open(2) count(7)=4 addServer() add(3, 0, 3) count(7)=4 add(2, 0, 3) count(7)=5");
        Sentence.row("6*addServer() 24*add(1000, 0, 3) count(7)=4000 close(0) close(1) close(2) close(4) close(5)"
                + " count(7)=24000");
        Sentence.row("2*addServer() 6*add(2, 0, 0) count(7)=6 finish(0) count(7)=5 finish(1) count(7)=4");
    }

    private static void boundByGreatest() {
        Sentence.ofTerms("6 10 17 21 22 23", BOUND);
        // 10 and 9: 9.5 is rounded up to 10; with 1 more it is 10, with 2 more 10.5, which is 11.
        Sentence.row("2*addServer() add(10, 0, 0) count(7)=10 add(9, 0, 0) count(7)=10 add(1, 0, 0) count(7)=10"
                + " add(1, 0, 0) count(7)=11");
        Sentence.row("2*addServer() add(3, 0, 1) add(1000, 0, 0) count(7)=1000 finish(1) count(7)=3 finish(0)"
                + " count(7)=0");
        Sentence.row("6*addServer() add(8, 0, 5) add(9, 0, 5) add(7, 0, 5) count(7)=9 finish(1) count(7)=8"
                + " undo() count(7)=9");
    }

    private static void target() {
        Sentence.ofTerms("6 17", "The target is the bound times the factor (100 to 400 percent; at first 120)"
                + " divided by 100.");
        Sentence.row("count(11)=120 count(8)=0 addServer() count(8)=0 add(10, 0, 0) count(7)=10 count(8)=12"
                + " setFactor(100)=10 count(8)=10 setFactor(101)=10 setFactor(399)=39 setFactor(400)=40 count(8)=40");
        Sentence.refused(Due.INVALID, "addServer() add(10, 0, 0)", "setFactor(99)", "setFactor(401)");
        // The bound 5 by the sum, 7 by the greatest size.
        Sentence.row("2*addServer() 3*add(3, 0, 0) count(7)=5 count(8)=6 setFactor(150)=7 add(7, 0, 1)"
                + " count(7)=8 count(8)=12 finish(0) finish(1) count(7)=7 count(8)=10");
        Sentence.row("addServer() 24*add(1000, 0, 0) setFactor(400)=96000 count(8)=96000");
    }

    private static void evenLoads() {
        Sentence.ofTerms("10 17 21 22 23", "The loads are even if no load is greater than the target.");
        Sentence.row("count(9)=1 addServer() count(9)=1 add(1000, 0, 0) setFactor(100) count(9)=1");
        // 7 and 4: the bound is 6. 6 * 1.16 is 6.96, 6 * 1.17 is 7.02.
        String start = "2*addServer() add(6, 0, 0) add(1, 0, 0) add(4, 0, 1)";
        Sentence.row(start + " count(7)=6 setFactor(116)=6 count(9)=0 plan(0)=1 fewest(0)=1 setFactor(117)=7"
                + " count(9)=1 plan(0)=0 fewest(0)=0 step(0)=NONE even(1)=0");
        // The load above the target may be that of any server.
        Sentence.row("3*addServer() add(5, 0, 0) add(5, 0, 1) 2*add(5, 0, 2) setFactor(100)=7 count(9)=0");
        Sentence.row("3*addServer() add(5, 0, 0) 2*add(5, 0, 1) add(5, 0, 2) setFactor(100)=7 count(9)=0"
                + " setFactor(142)=9 count(9)=0 setFactor(143)=10 count(9)=1");
        Sentence.row("2*addServer() 2*add(5, 0, 0) count(9)=0 close(1) count(9)=1 open(1) count(9)=0");
    }

    private static void onlyOpenServer() {
        Sentence.ofTerms("1 2 11 17 24", "If no server is open, there are no jobs (a server that is the only open one"
                + " cannot be closed).");
        Sentence.row("count(1)=0 count(2)=0 count(4)=0");
        Sentence.refused(Due.INVALID, "", "add(1, 0, 0)");
        Sentence.refused(Due.ILLEGAL, "addServer()", "close(0)", "without(0)");
        Sentence.refused(Due.ILLEGAL, "addServer() add(5, 0, 0)", "close(0)", "without(0)");
        Sentence.refused(Due.ILLEGAL, "3*addServer() add(5, 0, 1) close(0) close(2)", "close(1)", "without(1)");
        Sentence.row("3*addServer() close(0)=0 close(1)=0 close(2)=ILLEGAL open(1)=2 close(2)=0 close(1)=ILLEGAL"
                + " count(1)=1");
    }

    private static void moves() {
        Sentence.ofTerms("5 7 17", "A move takes a job to another open server; its price is taken from the budget (0 to"
                + " 10000; at first 500).");
        Sentence.row("count(10)=500");
        String start = "3*addServer() add(10, 30, 0) add(20, 0, 0)";
        Sentence.row(start + " move(0, 1)=20 job(0, 2)=1 count(10)=470 move(0, 2)=20 job(0, 2)=2 count(10)=440"
                + " move(1, 2)=30 count(10)=440 job(1, 2)=2");
        Sentence.refused(Due.ILLEGAL, start + " close(2)", "move(0, 0)", "move(0, 2)");
        Sentence.row(start + " setBudget(0)=500 move(1, 1)=20 count(10)=0 setBudget(10000)=0 move(0, 1)=30"
                + " count(10)=9970");
        Sentence.refused(Due.INVALID, start, "setBudget(-1)", "setBudget(10001)");
    }

    private static void exchangesAndRings() {
        Sentence.ofTerms("8 9", "An exchange moves two jobs of different servers, each to the server of the other one; a"
                + " ring moves three jobs of three different servers: the first one to the server of the second one,"
                + " that one to the server of the third one, and that one to the server of the first one.");
        String start = "4*addServer() add(10, 1, 0) add(20, 2, 1) add(30, 4, 2) add(1, 8, 0) add(2, 16, 1)";
        Sentence.row(start + " exchange(0, 1)=30 job(0, 2)=1 job(1, 2)=0 job(2, 2)=2 job(3, 2)=0 job(4, 2)=1"
                + " server(0, 1)=21 server(1, 1)=12 server(2, 1)=30");
        Sentence.row(start + " exchange(2, 0)=31 job(0, 2)=2 job(2, 2)=0 server(0, 1)=31 server(2, 1)=10");
        Sentence.refused(Due.ILLEGAL, start, "exchange(0, 3)", "exchange(3, 0)", "exchange(4, 1)");
        Sentence.row(start + " ring(0, 1, 2)=31 job(0, 2)=1 job(1, 2)=2 job(2, 2)=0 job(3, 2)=0 job(4, 2)=1");
        Sentence.row(start + " ring(2, 1, 0)=32 job(2, 2)=1 job(1, 2)=0 job(0, 2)=2 job(3, 2)=0 job(4, 2)=1"
                + " server(0, 1)=21 server(1, 1)=32 server(2, 1)=10");
        Sentence.refused(Due.ILLEGAL, start, "ring(0, 3, 1)", "ring(0, 1, 3)", "ring(1, 0, 3)", "ring(0, 3, 2)");
    }

    private static void movesAreCounted() {
        Sentence.ofTerms("8 9 17 19", "An exchange counts as two moves, a ring as three; the prices of all their jobs are"
                + " taken from the budget.");
        String start = "3*addServer() add(10, 1, 0) add(20, 2, 1) add(30, 4, 2)";
        Sentence.row(start + " exchange(0, 1) count(12)=2 count(10)=497 job(0, 3)=1 job(1, 3)=1 job(2, 3)=0"
                + " exchange(2, 1) count(12)=4 count(10)=491 job(0, 3)=1 job(1, 3)=2 job(2, 3)=1");
        Sentence.row(start + " ring(0, 1, 2) count(12)=3 count(10)=493 job(0, 3)=1 job(1, 3)=1 job(2, 3)=1"
                + " ring(2, 0, 1) count(12)=6 count(10)=486 job(0, 3)=2 job(1, 3)=2 job(2, 3)=2 move(0, 1)=40"
                + " count(12)=7 count(10)=485");
    }

    private static final String NOT_ALLOWED = "What the budget does not allow is not possible.";

    private static void budgetForCalls() {
        Sentence.ofTerms("7 8 9 11 16", NOT_ALLOWED);
        String start = "3*addServer() add(10, 1, 0) add(20, 2, 1) add(30, 4, 2) add(40, 9, 1)";
        Sentence.refused(Due.ILLEGAL, start + " setBudget(0)", "move(0, 1)", "exchange(0, 1)", "ring(0, 1, 2)",
                "close(0)");
        Sentence.row(start + " setBudget(1) move(0, 1)=70 count(10)=0");
        Sentence.refused(Due.ILLEGAL, start + " setBudget(2)", "exchange(0, 1)", "exchange(1, 0)", "move(2, 1)");
        Sentence.row(start + " setBudget(3) exchange(0, 1)=50 count(10)=0");
        Sentence.refused(Due.ILLEGAL, start + " setBudget(6)", "ring(0, 1, 2)", "ring(1, 2, 0)", "ring(2, 0, 1)");
        Sentence.row(start + " setBudget(7) ring(0, 1, 2)=50 count(10)=0");
        Sentence.refused(Due.ILLEGAL, start + " setBudget(10)", "close(1)");
        Sentence.row(start + " setBudget(11) close(1)=2 count(10)=0");
        // In a program each order is asked for what is left by the ones before.
        Sentence.refused(-1010, start + " setBudget(2) type(m0 1;m0 0;m0 2;)", "run()");
        Sentence.row(start + " setBudget(3) type(m0 1;m0 0;m0 2;) run()=3 count(10)=0");
    }

    private static void budgetForSteps() {
        Sentence.ofTerms("10 21 22", NOT_ALLOWED);
        // 20 and 0: a job goes for 5.
        String move = "2*addServer() 2*add(10, 5, 0)";
        Sentence.row(move + " setBudget(4) step(0)=NONE plan(0)=0 plan(3)=20 even(30)=0 count(5)=20 count(10)=4");
        Sentence.row(move + " setBudget(5) step(0)=0 step(3)=5 plan(0)=1 plan(3)=10 even(30)=1 count(10)=0");
        // 19 and 15: no move is a candidate; 9 is exchanged by 7 for 2 and 4.
        String exchange = "2*addServer() add(10, 1, 0) add(9, 2, 0) add(7, 4, 1) add(8, 8, 1) setFactor(100)";
        Sentence.row(exchange + " setBudget(5) step(0)=NONE plan(0)=0 even(30)=0 count(5)=19 count(10)=5");
        Sentence.row(exchange + " setBudget(6) step(0)=1 step(3)=6 plan(0)=1 even(30)=1 count(5)=17 count(10)=0");
        // The second step is not possible: the plan ends behind the first one.
        String row = "3*addServer() 6*add(10, 4, 0)";
        Sentence.row(row + " setBudget(7) plan(0)=1 plan(2)=4 even(30)=1 count(10)=3");
        Sentence.row(row + " setBudget(8) plan(0)=2 plan(2)=8 even(30)=2 count(10)=0");
    }
}
