/** The sentences of the promises 17 to 20: count, server, job, leaving. */
final class SentencesOfLooking {
    private static final String MIXED = TermsOfUndo.MIXED;
    private static final String[] FAR = {"-1", "MIN", "MAX"};

    private SentencesOfLooking() {
    }

    static void all() {
        count();
        countNumbers();
        countLoads();
        server();
        serverProperties();
        job();
        leaving();
    }

    /** All that is asked changes nothing: numbers that are out of range, beside and far away. */
    private static void out(String start, String before, String after, String beside) {
        Sentence.refused(Due.INVALID, start, before + beside + after);
        for (String far : FAR) {
            Sentence.refused(Due.INVALID, start, before + far + after);
        }
    }

    private static void count() {
        Sentence.of(17, "`int count(int what)`: Returns a number.");
        for (int what = 0; what <= 14; what++) {
            String call = "count(" + what + ")";
            Sentence.same(MIXED + " type(p1;)", call, Told.of(MIXED + " type(p1;)").answer(call));
            Sentence.same("type(p1;)", call, what == 9 ? 1 : what == 10 ? 500 : what == 11 ? 120 : what == 14 ? 3 : 0);
        }
        Sentence.of(17, "Returns the number; INVALID_ARGUMENT if what is out of range.");
        out(MIXED, "count(", ")", "15");
        out("", "count(", ")", "15");
    }

    private static void countNumbers() {
        Sentence.of(17, whatOfCount());
        Sentence.row("count(0)=0 count(1)=0 addServer() count(0)=1 count(1)=1 5*addServer() count(0)=6 count(1)=6 close(0) count(0)=6"
                + " count(1)=5 close(5) count(1)=4 open(0) count(1)=5 count(0)=6");
        Sentence.row("count(2)=0 count(3)=0 addServer() add(5, 5, 0) count(2)=1 count(3)=0 23*add(5, 5, 0) count(2)=24 finish(23)"
                + " count(2)=24 count(3)=1 finish(0) count(3)=2 undo() count(3)=1");
        Sentence.row("addServer() 24*add(1, 1, 0) " + allFinished() + " count(2)=24 count(3)=24 count(4)=0 count(5)=0 count(7)=0 count(8)=0 count(9)=1");
        Sentence.row("count(10)=500 2*addServer() add(5, 30, 0) move(0, 1) count(10)=470 setBudget(40) count(10)=40 move(0, 0)"
                + " count(10)=10 undo() count(10)=40");
        Sentence.row("count(11)=120 setFactor(400) count(11)=400 setFactor(100) count(11)=100 undo() count(11)=400");
        Sentence.row("count(12)=0 4*addServer() add(5, 0, 0) add(6, 0, 1) add(7, 0, 2) move(0, 3) count(12)=1 exchange(0, 1)"
                + " count(12)=3 ring(0, 1, 2) count(12)=6 close(0) count(12)=6 undo() undo() count(12)=3 undo() count(12)=1");
        Sentence.row("2*addServer() add(5, 0, 0) add(6, 0, 0) add(7, 0, 0) even(30)=1 count(12)=1 close(0) count(12)=3 type(m0 1;)"
                + " run()=-1000 count(12)=3 open(0) run()=-1000 clearText() type(m0 0;) run()=1 count(12)=4");
        Sentence.row("count(13)=0 addServer() count(13)=1 addServer() count(13)=2 add(1, 1, 0) count(13)=3 add(1, 1, 5)=INVALID"
                + " count(13)=3 move(0, 1) count(13)=4 even(1) count(13)=5 run() count(13)=5 undo() count(13)=4 append(32)"
                + " count(13)=4");
        Sentence.row("count(14)=0 append(1) count(14)=1 type(" + " ".repeat(99) + ") count(14)=100 append(1)=FULL count(14)=100"
                + " clearText() count(14)=0 addServer() count(14)=0");
    }

    private static String allFinished() {
        StringBuilder calls = new StringBuilder();
        for (int job = 0; job < 24; job++) {
            calls.append(job == 0 ? "" : " ").append("finish(").append(job).append(")");
        }
        return calls.toString();
    }

    private static void countLoads() {
        Sentence.of(17, whatOfCount());
        // 4, 5 and 6 without servers, without jobs, and where only closed servers have no load.
        Sentence.row("count(4)=0 count(5)=0 count(6)=0 3*addServer() count(4)=0 count(5)=0 count(6)=0 add(5, 0, 0) count(4)=5"
                + " count(5)=5 count(6)=0 add(7, 0, 1) count(4)=12 count(5)=7 count(6)=0 close(2) count(6)=5 close(0) count(5)=12"
                + " count(6)=12 open(0) count(6)=0 count(5)=12 count(4)=12");
        Sentence.row("3*addServer() add(3, 0, 0) add(2, 0, 1) add(4, 0, 2) count(5)=4 count(6)=2 add(3, 0, 1) count(5)=5 count(6)=3"
                + " finish(0) count(6)=0 count(4)=9");
        Sentence.row("6*addServer() 24*add(1000, 0, 5) count(4)=24000 count(5)=24000 count(6)=0");
        // 7, 8 and 9 without servers, and with them.
        Sentence.row("count(7)=0 count(8)=0 count(9)=1 setFactor(400) count(8)=0 addServer() count(7)=0 count(8)=0 count(9)=1");
        Sentence.row("2*addServer() add(7, 0, 0) count(7)=7 count(8)=8 count(9)=1 add(2, 0, 0) count(7)=7 count(8)=8 count(9)=0"
                + " setFactor(129) count(8)=9 count(9)=1 setFactor(128) count(8)=8 count(9)=0 move(1, 1) count(9)=1");
        Sentence.row("addServer() count(9)=1 add(1000, 0, 0) setFactor(100) count(9)=1 addServer() count(9)=1 add(1, 0, 0) count(9)=0");
    }

    private static String whatOfCount() {
        return "`what`: 0 the number of servers, 1 of open ones, 2 of jobs, 3 of jobs that are finished, 4 the sum of all loads, 5 the"
                + " greatest load, 6 the smallest load of an open server (5 and 6: 0 without servers), 7 the bound and 8 the target (0"
                + " without servers), 9 1 if the loads are even (also without servers) and 0 if not, 10 what is left of the budget, 11"
                + " the factor, 12 the number of moves so far, 13 of states in the history, 14 the length of the text";
    }

    private static void server() {
        Sentence.of(18, "`int server(int server, int what)`: Returns a property of a server.");
        for (int what = 0; what <= 4; what++) {
            for (int server = 0; server <= 3; server++) {
                String call = "server(" + server + ", " + what + ")";
                Sentence.same(MIXED, call, Told.of(MIXED).answer(call));
            }
        }
        Sentence.of(18, "`server`: a server");
        out(MIXED, "server(", ", 0)", "4");
        out(MIXED, "server(", ", 4)", "4");
        out("", "server(", ", 1)", "0");
        Sentence.row("6*addServer() server(0, 0)=1 server(5, 0)=1 server(6, 0)=INVALID undo() server(5, 0)=INVALID server(4, 0)=1");
        Sentence.of(18, "Returns the property; INVALID_ARGUMENT if there is no such server or what is out of range.");
        out(MIXED, "server(0, ", ")", "5");
        out(MIXED, "server(3, ", ")", "5");
        out("", "server(0, ", ")", "5");
        Sentence.refused(Due.INVALID, MIXED, "server(4, 5)", "server(-1, -1)", "server(MAX, MIN)");
        Sentence.row("2*addServer() add(3, 0, 1) server(1, 0)=1 server(1, 1)=3 server(1, 2)=1 server(1, 3)=1000 server(1, 4)=1");
    }

    private static void serverProperties() {
        Sentence.of(18, "`what`: 0 1 if it is open and 0 if closed, 1 its load, 2 the number of its jobs, 3 its load in thousandths of the"
                + " sum of all loads (0 if that is 0), 4 the set of its jobs of the numbers 0 to 23, bit by bit");
        Sentence.row("2*addServer() server(0, 0)=1 close(0) server(0, 0)=0 server(1, 0)=1 open(0) server(0, 0)=1 undo() server(0, 0)=0");
        Sentence.row("2*addServer() server(0, 1)=0 server(0, 2)=0 add(5, 0, 0) server(0, 1)=5 server(0, 2)=1 add(6, 0, 0) server(0, 1)=11"
                + " server(0, 2)=2 move(0, 1) server(0, 1)=6 server(0, 2)=1 server(1, 1)=5 server(1, 2)=1 finish(1) server(0, 1)=0"
                + " server(0, 2)=0");
        Sentence.row("2*addServer() 24*add(1000, 0, 1) server(1, 1)=24000 server(1, 2)=24 server(1, 3)=1000 server(1, 4)=16777215"
                + " server(0, 1)=0 server(0, 2)=0 server(0, 3)=0 server(0, 4)=0");
        // Of no loads at all; all of it; parts that are rounded down.
        Sentence.row("2*addServer() server(0, 3)=0 server(1, 3)=0 add(1, 0, 0) server(0, 3)=1000 server(1, 3)=0 finish(0)"
                + " server(0, 3)=0");
        Sentence.row("3*addServer() add(1, 0, 0) add(1, 0, 1) add(1, 0, 2) server(0, 3)=333 server(2, 3)=333 move(0, 1) server(0, 3)=0"
                + " server(1, 3)=666 close(2) server(2, 3)=0 server(0, 3)=333 server(1, 3)=666");
        Sentence.row("2*addServer() add(1, 0, 0) add(1000, 0, 1) server(0, 3)=0 server(1, 3)=999 add(999, 0, 0) server(0, 3)=500");
        // The bits of the jobs 0 and 23, of those in between, and none of a finished one.
        Sentence.row("2*addServer() add(1, 0, 1) 22*add(1, 0, 0) add(1, 0, 1) server(1, 4)=8388609 server(0, 4)=8388606 finish(23)"
                + " server(1, 4)=1 finish(0) server(1, 4)=0 move(22, 1) server(1, 4)=4194304 server(0, 4)=4194302");
    }

    private static void job() {
        Sentence.of(19, "`int job(int job, int what)`: Returns a property of a job.");
        for (int what = 0; what <= 3; what++) {
            for (int job = 0; job <= 4; job++) {
                String call = "job(" + job + ", " + what + ")";
                Sentence.same(MIXED, call, Told.of(MIXED).answer(call));
            }
        }
        Sentence.of(19, "`job`: a job");
        out(MIXED, "job(", ", 0)", "5");
        out(MIXED, "job(", ", 2)", "5");
        out("addServer()", "job(", ", 0)", "0");
        Sentence.row("addServer() 24*add(9, 8, 0) job(0, 0)=9 job(23, 0)=9 job(24, 0)=INVALID undo() job(23, 0)=INVALID job(22, 0)=9");
        Sentence.of(19, "`what`: 0 its size, 1 its price, 2 the server on which it is (NONE if it is finished), 3 how often it was moved");
        Sentence.row("6*addServer() add(1, 0, 5) add(1000, 100, 0) job(0, 0)=1 job(0, 1)=0 job(0, 2)=5 job(0, 3)=0 job(1, 0)=1000"
                + " job(1, 1)=100 job(1, 2)=0 job(1, 3)=0 move(0, 4) job(0, 2)=4 job(0, 3)=1 exchange(0, 1) job(0, 2)=0 job(0, 3)=2"
                + " job(1, 2)=4 job(1, 3)=1 close(0) job(0, 2)=1 job(0, 3)=3 finish(0) job(0, 2)=NONE job(0, 3)=3 job(0, 0)=1 undo()"
                + " job(0, 2)=1 undo() job(0, 2)=0 job(0, 3)=2");
        Sentence.row("3*addServer() 2*add(10, 0, 0) even(1)=1 job(0, 3)=1 job(1, 3)=0 job(0, 2)=1");
        Sentence.row("2*addServer() add(5, 0, 0) move(0, 0)=ILLEGAL job(0, 3)=0 move(0, 1) job(0, 3)=1 without(0)=5 job(0, 3)=1");
        Sentence.of(19, "Returns the property; INVALID_ARGUMENT if there is no such job or what is out of range.");
        out(MIXED, "job(0, ", ")", "4");
        out(MIXED, "job(3, ", ")", "4");
        Sentence.refused(Due.INVALID, MIXED, "job(5, 4)", "job(-1, -1)", "job(MIN, MAX)");
        Sentence.refused(Due.INVALID, "", "job(0, 0)", "job(0, 4)");
    }

    private static void leaving() {
        Sentence.of(20, "`int leaving(int server, int index)`: Returns a job of a server by the order in which they would leave it if it"
                + " closed.");
        Sentence.row("2*addServer() add(5, 3, 0) add(5, 2, 0) add(6, 9, 0) add(5, 2, 0) add(9, 0, 1) add(4, 0, 0) leaving(0, 0)=2"
                + " leaving(0, 1)=1 leaving(0, 2)=3 leaving(0, 3)=0 leaving(0, 4)=5 leaving(0, 5)=NONE leaving(1, 0)=4"
                + " leaving(1, 1)=NONE");
        Sentence.row("addServer() add(1, 100, 0) add(1000, 100, 0) add(1, 0, 0) add(1000, 0, 0) leaving(0, 0)=3 leaving(0, 1)=1"
                + " leaving(0, 2)=2 leaving(0, 3)=0 leaving(0, 4)=NONE");
        Sentence.same(MIXED, "leaving(0, 0)", 0);
        Sentence.same(MIXED, "leaving(0, 1)", 4);
        Sentence.of(20, "`server`: a server");
        out(MIXED, "leaving(", ", 0)", "4");
        out("", "leaving(", ", 0)", "0");
        Sentence.row("6*addServer() add(1, 1, 5) leaving(5, 0)=0 leaving(6, 0)=INVALID leaving(0, 0)=NONE");
        Sentence.of(20, "`index`: 0 for the first one, and so on");
        Sentence.row("addServer() 24*add(1, 1, 0) leaving(0, 0)=0 leaving(0, 1)=1 leaving(0, 22)=22 leaving(0, 23)=23 leaving(0, 24)=NONE"
                + " finish(0) leaving(0, 0)=1 leaving(0, 22)=23 leaving(0, 23)=NONE");
        Sentence.of(20, "Returns the job; INVALID_ARGUMENT if there is no such server or index is negative; NONE if there are not so many.");
        for (String far : new String[] {"2", "23", "24", "MAX"}) {
            Sentence.same(MIXED, "leaving(0, " + far + ")", Due.NONE);
        }
        for (String index : new String[] {"0", "1", "MAX"}) {
            Sentence.same(MIXED, "leaving(3, " + index + ")", Due.NONE);
            Sentence.same("addServer()", "leaving(0, " + index + ")", Due.NONE);
        }
        Sentence.refused(Due.INVALID, MIXED, "leaving(0, -1)", "leaving(0, MIN)", "leaving(3, -1)", "leaving(4, -1)", "leaving(4, MAX)",
                "leaving(-1, -1)");
        Sentence.row("2*addServer() add(5, 5, 0) leaving(0, 0)=0 leaving(0, 1)=NONE move(0, 1) leaving(0, 0)=NONE leaving(1, 0)=0"
                + " close(1) leaving(1, 0)=NONE leaving(0, 0)=0");
    }
}
