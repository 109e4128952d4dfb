/** The sentences of the promises 21 to 24: step, plan, fewest, without. */
final class SentencesOfOutlook {
    private static final String MIXED = TermsOfUndo.MIXED;
    /** 60, 0 and 0, which five moves even to 20 each, for 1, 2, 4, 8 and 1. */
    private static final String MOVES = "3*addServer() add(10, 1, 0) add(10, 2, 0) add(10, 4, 0) 3*add(10, 8, 0) setFactor(100)";
    /** 19 and 15, which the exchange of the jobs 1 and 2 evens to 17 and 17, for 2 and 4. */
    private static final String EXCHANGE =
            "2*addServer() add(10, 1, 0) add(9, 2, 0) add(7, 4, 1) add(8, 8, 1) setFactor(100)";

    private SentencesOfOutlook() {
    }

    static void all() {
        changesNothing();
        step();
        plan();
        fewestMoves();
        fewestIsFew();
        fewestOfAnyServer();
        fewestPrice();
        fewestAnswers();
        without();
    }

    /** A number that is out of range is refused, also those far away. */
    private static void out(String start, String name, int... numbers) {
        for (int number : numbers) {
            Sentence.refused(Due.INVALID, start, name + "(" + number + ")");
        }
        Sentence.refused(Due.INVALID, start, name + "(-1)", name + "(MIN)", name + "(MAX)");
    }

    private static void answers(String start, String name, int... want) {
        for (int what = 0; what < want.length; what++) {
            Sentence.same(start, name + "(" + what + ")", want[what]);
        }
    }

    private static void changesNothing() {
        Sentence.ofTerms("21 22 23 24", "Ahead of the calls `step`, `plan`, `fewest`, `without` the interface says: ---- what could"
                + " be, which changes nothing.");
        answers(MOVES, "step", 0, 1, Due.NONE, 1);
        answers(MOVES, "plan", 5, 5, 16, 20, 1);
        answers(MOVES + " move(5, 2) move(4, 2)", "fewest", 2, 3);
        answers(MOVES, "without", 30, 60, 60);
        answers(MIXED, "without", 35, 35, 45);
    }

    private static void step() {
        Sentence.of(21, "`int step(int what)`: Tells something of the first step of the plan now.");
        answers(MOVES, "step", 0, 1, Due.NONE, 1);
        answers(MOVES + " even(1)", "step", 1, 1, Due.NONE, 2);
        answers(MOVES + " even(3)", "step", 3, 2, Due.NONE, 8);
        answers(MOVES + " even(4)", "step", 0, 2, Due.NONE, 1);
        answers(MOVES + " even(5)", "step", Due.NONE, Due.NONE, Due.NONE, Due.NONE);
        Sentence.of(21, "`what`: 0 the job of the full server, 1 the server to which it would go (for an exchange that of the other job),"
                + " 2 the job with which it would be exchanged (NONE for a move), 3 the price");
        answers(EXCHANGE, "step", 1, 1, 2, 6);
        answers("4*addServer() add(7, 3, 3) 2*add(6, 1, 0) add(6, 0, 1) add(6, 1, 1) 2*add(6, 1, 2) add(7, 100, 3) setFactor(100)",
                "step", 0, 1, 3, 3);
        answers("6*addServer() 23*add(4, 9, 5) add(500, 100, 5) setFactor(100)", "step", 23, 0, Due.NONE, 100);
        answers("2*addServer() 2*add(5, 0, 1)", "step", 0, 0, Due.NONE, 0);
        Sentence.of(21, "Returns it; INVALID_ARGUMENT if what is out of range; NONE if the plan has no step.");
        out(MOVES, "step", 4);
        out(MIXED, "step", 4);
        out("", "step", 4);
        answers("", "step", Due.NONE, Due.NONE, Due.NONE, Due.NONE);
        answers(MIXED, "step", Due.NONE, Due.NONE, Due.NONE, Due.NONE);
        answers(MOVES + " setBudget(0)", "step", Due.NONE, Due.NONE, Due.NONE, Due.NONE);
        answers(EXCHANGE + " setBudget(5)", "step", Due.NONE, Due.NONE, Due.NONE, Due.NONE);
        answers("2*addServer() 2*add(5, 0, 0) add(5, 0, 1) setFactor(100)", "step", Due.NONE, Due.NONE, Due.NONE, Due.NONE);
    }

    private static void plan() {
        Sentence.of(22, "`int plan(int what)`: Tells something of the whole plan now.");
        answers(MOVES, "plan", 5, 5, 16, 20, 1);
        answers(MOVES + " even(2)", "plan", 3, 3, 13, 20, 1);
        answers(MOVES + " even(5)", "plan", 0, 0, 0, 20, 1);
        Sentence.of(22, "`what`: 0 the number of its steps, 1 of its moves, 2 its price, 3 the greatest load behind it, 4 1 if the loads"
                + " are even behind it and 0 if not");
        answers(EXCHANGE, "plan", 1, 2, 6, 17, 1);
        // 27 9 0, 18 18 0, 9 18 9; then no move of the server 1 makes less than 18, nor does an exchange.
        answers("3*addServer() 3*add(9, 1, 0) add(9, 1, 1) setFactor(100)", "plan", 2, 2, 2, 18, 0);
        // The moves and the price so far do not count: one move for 9 and two for 3 were done before.
        answers("2*addServer() add(10, 9, 0) add(10, 1, 0) add(10, 2, 1) move(0, 1) exchange(0, 1) finish(2) move(0, 1)", "plan",
                1, 1, 1, 10, 1);
        answers(MOVES + " setBudget(0)", "plan", 0, 0, 0, 60, 0);
        answers(MOVES + " setBudget(15)", "plan", 4, 4, 15, 30, 0);
        answers(MOVES + " setBudget(16)", "plan", 5, 5, 16, 20, 1);
        answers("6*addServer() 24*add(7, 1, 0) setFactor(100)", "plan", 30, 30, 30, 35, 0);
        answers("", "plan", 0, 0, 0, 0, 1);
        answers("addServer() add(7, 1, 0)", "plan", 0, 0, 0, 7, 1);
        answers(MIXED, "plan", 0, 0, 0, 30, 1);
        Sentence.of(22, "Returns it; INVALID_ARGUMENT if what is out of range.");
        out(MOVES, "plan", 5);
        out(MIXED, "plan", 5);
        out("", "plan", 5);
    }

    private static final String FEWEST = "`int fewest(int what)`: Tells something of the fewest moves of different jobs, each to another"
            + " open server, behind which the loads are even, whatever the budget allows; at most 2 moves are looked at.";

    private static void fewestMoves() {
        Sentence.of(23, FEWEST);
        // None, one, two, and three, which are too many: so many of the jobs of 10 must leave 10 * n, with the target n * 6.
        String two = "2*addServer() ";
        answers("", "fewest", 0, 0);
        answers(two, "fewest", 0, 0);
        answers(two + "add(10, 5, 0)", "fewest", 0, 0);
        answers(two + "2*add(10, 5, 0)", "fewest", 1, 5);
        answers(two + "3*add(10, 5, 0)", "fewest", Due.NONE, Due.NONE);
        answers(two + "3*add(10, 5, 0) setFactor(134)", "fewest", 1, 5);
        answers(two + "4*add(10, 5, 0)", "fewest", 2, 10);
        answers(two + "5*add(10, 5, 0)", "fewest", 2, 10);
        answers(two + "6*add(10, 5, 0)", "fewest", Due.NONE, Due.NONE);
        // Even is a load on the target: 12 and 0 with the bound 6 and the target 12, 11, or 6.
        answers(two + "add(6, 5, 0) add(6, 7, 0) setFactor(200)", "fewest", 0, 0);
        answers(two + "add(6, 5, 0) add(6, 7, 0) setFactor(199)", "fewest", 1, 5);
        answers(two + "add(6, 5, 0) add(6, 7, 0) setFactor(100)", "fewest", 1, 5);
        // Whatever the budget allows.
        answers(two + "4*add(10, 100, 0) setBudget(0)", "fewest", 2, 200);
        answers(two + "2*add(10, 100, 0) setBudget(99)", "fewest", 1, 100);
        // To open servers alone: 20, 10 and one that is closed, or open.
        String three = "3*addServer() add(10, 1, 0) add(10, 2, 0) add(10, 3, 1) setFactor(100)";
        answers(three, "fewest", 1, 1);
        answers(three + " close(2)", "fewest", Due.NONE, Due.NONE);
        answers(three + " close(2) open(2)", "fewest", 1, 1);
        answers(three + " close(2) close(1)", "fewest", 0, 0);
        // Wherever the servers stand among those that are closed: 20 on the last one, and 20 that go to the last one.
        answers("3*addServer() 2*add(10, 1, 2) close(0)", "fewest", 1, 1);
        answers("4*addServer() 2*add(10, 1, 0) close(1) close(2)", "fewest", 1, 1);
        answers("6*addServer() 2*add(10, 1, 5)", "fewest", 1, 1);
        // Finished jobs do not move: the cheap one is finished.
        answers(two + "add(10, 0, 0) 2*add(10, 5, 0) finish(0)", "fewest", 1, 5);
    }

    private static void fewestIsFew() {
        Sentence.of(23, FEWEST);
        // One dear move, though two moves would do it for nothing: 12 of 12, 6 and 6, or 6 and 6.
        answers("2*addServer() add(12, 100, 0) 2*add(6, 0, 0) setFactor(100)", "fewest", 1, 100);
        // 12, 11, 1 by 2: one move of 12 does it, so do 11 and 1 for less, which are two.
        answers("2*addServer() add(12, 50, 0) add(11, 1, 0) add(1, 1, 0) setFactor(100)", "fewest", 1, 50);
        // Different jobs: one job that is moved twice, over the server 1 to the server 2, is moved once.
        answers("3*addServer() 3*add(10, 1, 0) setFactor(100)", "fewest", 2, 2);
        // Three servers that are above the target want three moves; two want two.
        answers("6*addServer() 2*add(10, 1, 0) 2*add(10, 1, 1) 2*add(10, 1, 2) setFactor(100)", "fewest", Due.NONE, Due.NONE);
        answers("6*addServer() 2*add(10, 1, 0) 2*add(10, 1, 1) add(10, 1, 2) setFactor(100)", "fewest", 2, 2);
    }

    private static void fewestOfAnyServer() {
        Sentence.of(23, FEWEST);
        // 15, 8 and 6 with the bound 10: 5 must leave the server 0, and 3 the server 1, which is not full, for it.
        answers("3*addServer() add(10, 9, 0) add(5, 2, 0) add(5, 50, 1) add(3, 4, 1) add(6, 50, 2) setFactor(100)", "fewest", 2, 6);
        // The same where 3 is the job of the smallest number.
        answers("3*addServer() add(3, 4, 1) add(10, 9, 0) add(5, 2, 0) add(5, 50, 1) add(6, 50, 2) setFactor(100)", "fewest", 2, 6);
        // Two jobs that change places, as 17 and 17 come in no other way.
        answers(EXCHANGE, "fewest", 2, 6);
        // Two jobs that follow one another: 10 to the server 1, and the 4 from there to the server 2.
        answers("3*addServer() add(10, 3, 0) add(10, 7, 0) add(4, 5, 1) add(6, 100, 2) setFactor(100)", "fewest", 2, 8);
        // Both of them of one server, to one server and to two.
        answers("3*addServer() add(10, 1, 0) 2*add(5, 2, 0) add(10, 9, 1) setFactor(100)", "fewest", 1, 1);
        answers("3*addServer() add(10, 9, 0) 2*add(5, 2, 0) add(10, 9, 1) setFactor(100)", "fewest", 1, 9);
        answers("2*addServer() add(4, 1, 0) add(5, 2, 0) add(9, 30, 0) setFactor(100)", "fewest", 1, 30);
        answers("2*addServer() add(4, 1, 0) add(3, 5, 0) add(4, 2, 0) add(5, 0, 0) setFactor(100)", "fewest", 2, 3);
    }

    private static void fewestPrice() {
        Sentence.of(23, "`what`: 0 their number, 1 the smallest price of so few moves that do it");
        // The cheapest one wherever it stands among the jobs.
        answers("2*addServer() add(10, 4, 0) add(10, 5, 0)", "fewest", 1, 4);
        answers("2*addServer() add(10, 5, 0) add(10, 4, 0)", "fewest", 1, 4);
        answers("2*addServer() add(10, 100, 0) add(10, 99, 0)", "fewest", 1, 99);
        answers("2*addServer() add(10, 0, 0) add(10, 1, 0)", "fewest", 1, 0);
        // Two of four: the cheapest two of them, in every place.
        int[][] prices = {{1, 2, 9, 9}, {1, 9, 2, 9}, {1, 9, 9, 2}, {9, 1, 2, 9}, {9, 2, 9, 1}, {9, 9, 2, 1}};
        for (int[] row : prices) {
            StringBuilder jobs = new StringBuilder("2*addServer()");
            for (int price : row) {
                jobs.append(" add(10, ").append(price).append(", 0)");
            }
            answers(jobs.toString(), "fewest", 2, 3);
        }
        answers("2*addServer() 4*add(10, 0, 0)", "fewest", 2, 0);
        answers("2*addServer() 4*add(10, 100, 0)", "fewest", 2, 200);
        // The last ones of 24: 22 jobs of 1 may stay where they are, 100 and 100 with them must not.
        answers("3*addServer() 22*add(1, 9, 0) add(100, 3, 0) add(100, 4, 0) setFactor(100)", "fewest", 2, 7);
        // The cheapest one that does it, not the cheapest one: 1 for nothing would leave too much.
        answers("2*addServer() add(1, 0, 0) add(10, 8, 0) add(11, 7, 0) setFactor(100)", "fewest", 1, 7);
        answers("2*addServer() add(1, 0, 0) add(10, 8, 0) add(11, 9, 0) setFactor(100)", "fewest", 1, 9);
        // To a server where there is room for it: the cheaper 30 would have 31 beside 1.
        answers("3*addServer() add(30, 1, 0) add(29, 2, 0) add(30, 3, 1) add(1, 5, 2) setFactor(100)", "fewest", 1, 2);
        answers("3*addServer() add(30, 1, 0) add(29, 2, 0) add(30, 3, 1) setFactor(100)", "fewest", 1, 1);
    }

    private static void fewestAnswers() {
        Sentence.of(23, "Returns it; INVALID_ARGUMENT if what is out of range; NONE if no 2 moves do it.");
        String far = "2*addServer() 6*add(10, 5, 0)";
        answers(far, "fewest", Due.NONE, Due.NONE);
        answers(far + " move(0, 1)", "fewest", 2, 10);
        answers(far + " move(0, 1) move(1, 1)", "fewest", 1, 5);
        answers(far + " even(3)", "fewest", 0, 0);
        out(far, "fewest", 2, 3);
        out(MIXED, "fewest", 2, 3);
        out("", "fewest", 2);
        // No move can do it: each job is a server's whole load, or one server is all there is.
        answers("2*addServer() 2*add(5, 0, 0) add(5, 0, 1) setFactor(100)", "fewest", Due.NONE, Due.NONE);
        answers("addServer() 24*add(1000, 5, 0) setFactor(100)", "fewest", 0, 0);
    }

    private static void without() {
        Sentence.of(24, "`int without(int server)`: Tells what the greatest load would be if a server closed now, whatever the budget"
                + " allows.");
        String start = "3*addServer() add(9, 90, 0) add(7, 90, 0) add(5, 90, 1) add(3, 90, 2)";
        // 9 to the server 2 (12), then 7 to the server 1 (12); 5 to the server 2 (8); 3 to the server 1 (8).
        for (String budget : new String[] {"", " setBudget(0)", " setBudget(179)", " setBudget(180)"}) {
            Sentence.same(start + budget, "without(0)", 12);
            Sentence.same(start + budget, "without(1)", 16);
            Sentence.same(start + budget, "without(2)", 16);
        }
        Sentence.row(start + " without(0)=12 close(0)=2 count(5)=12 undo() without(1)=16 close(1)=1 count(5)=16 without(2)=24");
        Sentence.same("2*addServer()", "without(0)", 0);
        Sentence.same("2*addServer() 24*add(1000, 100, 0) setBudget(0)", "without(0)", 24000);
        Sentence.same("2*addServer() 24*add(1000, 100, 0) setBudget(0)", "without(1)", 24000);
        Sentence.same("6*addServer() 24*add(1, 0, 0)", "without(0)", 5);
        Sentence.of(24, "`server`: a server");
        out(MIXED, "without", 4, 6);
        out("", "without", 0);
        out("addServer()", "without", 1);
        Sentence.row("6*addServer() add(5, 5, 5) without(5)=5 without(6)=INVALID without(0)=5 undo() undo() without(5)=INVALID");
        Sentence.of(24, "Returns the load; INVALID_ARGUMENT if there is no such server; ILLEGAL_STATE if it is closed, or is the only open"
                + " one.");
        Sentence.refused(Due.ILLEGAL, MIXED, "without(3)");
        Sentence.refused(Due.ILLEGAL, "addServer()", "without(0)");
        Sentence.refused(Due.ILLEGAL, "2*addServer() add(5, 5, 0) close(1)", "without(0)", "without(1)");
        Sentence.row("3*addServer() add(5, 5, 0) close(1) without(0)=5 close(2) without(0)=ILLEGAL open(1) without(0)=5 without(1)=5"
                + " without(2)=ILLEGAL");
    }
}
