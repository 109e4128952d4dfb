/** The sentences of the Terms on the plan and on closing. */
final class TermsOfPlans {
    private TermsOfPlans() {
    }

    static void all() {
        ifNotEven();
        fullServer();
        moveOfSmallestLoad();
        moveBelowFull();
        moveOfSmallestPrice();
        moveOfSmallestNumbers();
        moveIsStep();
        exchangeOfSmallestLoad();
        exchangeBelowFull();
        exchangeOfSmallestPrice();
        exchangeOfSmallestNumbers();
        exchangeIsStep();
        noStep();
        planUntilEven();
        planUntilNoStep();
        planOfThirty();
        leavingOrder();
        leavingTo();
        closingIsPaid();
    }

    /** 19 and 15, of which only an exchange makes less: 9 (price 2) by 7 (price 4) makes 17 and 17. */
    private static final String EXCHANGE = "2*addServer() add(10, 1, 0) add(9, 2, 0) add(7, 4, 1) add(8, 8, 1)";

    private static void ifNotEven() {
        Sentence.ofTerms("10 21 22", "A step of the plan is chosen as follows, if the loads are not even.");
        Sentence.row("step(0)=NONE plan(0)=0 addServer() step(0)=NONE add(9, 0, 0) step(0)=NONE plan(0)=0 even(30)=0");
        // 12 and 0 with the bound 6: 6 * 2 is 12, and 6 * 1.99 is 11.
        Sentence.row("2*addServer() 2*add(6, 0, 0) setFactor(200)=12 step(0)=NONE plan(0)=0 even(30)=0 count(5)=12"
                + " setFactor(199)=11 step(0)=0 plan(0)=1 even(30)=1 count(5)=6");
        // 19 and 15 with the bound 17: 17 * 1.12 is 19, and 17 * 1.11 is 18.
        Sentence.row(EXCHANGE + " setFactor(112)=19 step(0)=NONE plan(0)=0 even(30)=0 setFactor(111)=18 step(0)=1"
                + " plan(0)=1 even(30)=1 count(5)=17");
    }

    private static void fullServer() {
        Sentence.ofTerms("10 21 22", "The full server is the open one with the greatest load, of several the one with the"
                + " smallest number.");
        // The servers 1 and 2 with 10 and 10, 10 and 11, 11 and 10.
        Sentence.row("3*addServer() 2*add(5, 0, 2) 2*add(5, 0, 1) step(0)=2 step(1)=0 even(1) server(1, 1)=5");
        Sentence.row("3*addServer() add(5, 0, 2) add(6, 0, 2) 2*add(5, 0, 1) step(0)=0 step(1)=0 even(1)"
                + " server(2, 1)=6");
        Sentence.row("3*addServer() 2*add(5, 0, 2) add(5, 0, 1) add(6, 0, 1) step(0)=2 step(1)=0 even(1)"
                + " server(1, 1)=6");
        Sentence.row("6*addServer() 2*add(5, 0, 5) step(0)=0 step(1)=0 close(0) step(0)=0 step(1)=1");
        Sentence.row("6*addServer() 2*add(5, 0, 5) 2*add(5, 0, 4) 2*add(5, 0, 0) setFactor(100) step(0)=4 step(1)=1");
    }

    private static final String CANDIDATE = "Of all moves of a job from the full server to another open one, that is a"
            + " candidate by which the greater one of the two loads (of the two servers, behind the move) is smallest, if"
            + " it is smaller than the load of the full server now; of several the one with the smallest price, then the"
            + " smallest job, then the smallest server.";

    private static void moveOfSmallestLoad() {
        Sentence.ofTerms("10 21 22", CANDIDATE);
        // 60, 0 and 5: to the server 0 they make 50, 30 and 40, to the server 2 50, 35 and 40.
        Sentence.row("3*addServer() add(10, 0, 1) add(30, 0, 1) add(20, 0, 1) add(5, 0, 2) step(0)=1 step(1)=0");
        // 60 and 25: 30 makes 55 of the other one, 20 makes 40 and 45, and 10 makes 50 and 35.
        Sentence.row("2*addServer() add(30, 0, 0) add(20, 0, 0) add(10, 0, 0) add(25, 0, 1) step(0)=1 step(1)=1");
        // The load is asked first, and the price then: 6 makes 6 of 12, and 5 makes 7.
        Sentence.row("2*addServer() add(5, 0, 0) add(6, 100, 0) add(1, 0, 0) setFactor(100) step(0)=1 step(3)=100");
        // Not to a closed server: the server 0 is empty, but it is closed.
        Sentence.row("3*addServer() 2*add(10, 0, 1) add(8, 0, 2) close(0) setFactor(100)=14 step(0)=0 step(1)=2"
                + " open(0) step(1)=0");
        // Not of another server: 1 of the server 1 would go for nothing.
        Sentence.row("3*addServer() add(1, 0, 1) add(5, 9, 0) add(5, 8, 0) setFactor(100) step(0)=2 step(1)=2");
        // Not of a finished job.
        Sentence.row("2*addServer() 3*add(5, 0, 0) finish(0) setFactor(100) step(0)=1");
    }

    private static void moveBelowFull() {
        Sentence.ofTerms("10 21 22", CANDIDATE);
        // 10 by 5 and 5: behind a move the other one has 9, 10 or 11.
        Sentence.row("2*addServer() 2*add(5, 0, 0) add(4, 0, 1) setFactor(100)=7 step(0)=0 step(1)=1 plan(0)=1");
        Sentence.row("2*addServer() 2*add(5, 0, 0) add(5, 0, 1) setFactor(100)=8 step(0)=NONE plan(0)=0 even(1)=0");
        Sentence.row("2*addServer() 2*add(5, 0, 0) add(6, 0, 1) setFactor(100)=8 step(0)=NONE plan(0)=0 even(1)=0");
        // As large as the load is not smaller, be it for less than a step that was chosen before.
        Sentence.row("2*addServer() add(5, 3, 0) add(5, 4, 0) step(3)=3 finish(0) add(5, 1, 0) add(5, 0, 1) setFactor(100)=8"
                + " step(0)=NONE plan(0)=0 even(1)=0");
        // 12 has but one job, which can only change its place; the bound is 12 by it.
        Sentence.row("2*addServer() add(12, 0, 0) setFactor(100)=12 step(0)=NONE");
    }

    private static void moveOfSmallestPrice() {
        Sentence.ofTerms("10 21 22", CANDIDATE);
        // 10 by 4 and 6: both make 6.
        Sentence.row("2*addServer() add(4, 5, 0) add(6, 4, 0) setFactor(100)=6 step(0)=1 step(3)=4");
        Sentence.row("2*addServer() add(4, 4, 0) add(6, 5, 0) setFactor(100)=6 step(0)=0 step(3)=4");
        Sentence.row("2*addServer() add(4, 100, 0) add(6, 99, 0) setFactor(100)=6 step(0)=1 step(3)=99");
        // The price before the numbers: the job 1 to the server 1 or 2, for less than the job 0 to the server 2.
        Sentence.row("3*addServer() add(8, 1, 0) 2*add(6, 0, 0) add(7, 0, 1) add(6, 0, 2) setFactor(100)=11"
                + " step(0)=1 step(1)=1 step(3)=0");
    }

    private static void moveOfSmallestNumbers() {
        Sentence.ofTerms("10 21 22", CANDIDATE);
        // By the number, not by the size.
        Sentence.row("2*addServer() add(4, 7, 0) add(6, 7, 0) setFactor(100)=6 step(0)=0");
        Sentence.row("2*addServer() add(6, 7, 0) add(4, 7, 0) setFactor(100)=6 step(0)=0");
        // 20 by 2 and 18: 2 to the server 1 with 3 or 2 with 0, and 18 to the server 2, make 18 each.
        Sentence.row("3*addServer() add(2, 0, 0) add(18, 0, 0) add(3, 0, 1) setFactor(100)=18 step(0)=0 step(1)=1");
        Sentence.row("6*addServer() 2*add(5, 0, 3) setFactor(100)=5 step(0)=0 step(1)=0");
        // 20, 7 and 6: 8 to the server 2, and 6 to the server 1 or 2, make 14; the job comes before the server.
        Sentence.row("3*addServer() add(8, 0, 0) 2*add(6, 0, 0) add(7, 0, 1) add(6, 0, 2) setFactor(100)=11 step(0)=0"
                + " step(1)=2");
        Sentence.row("3*addServer() 2*add(6, 0, 0) add(8, 0, 0) add(7, 0, 1) add(6, 0, 2) setFactor(100)=11 step(0)=0"
                + " step(1)=1");
    }

    private static void moveIsStep() {
        Sentence.ofTerms("10 21 22", "If there is a candidate, and the budget allows it, it is the step (no other move is"
                + " tried if it does not).");
        // 20 and 2: 10 makes 12, for 50; 6 would make 14 and 4 would make 16, for 1. 10 by 2 costs 51.
        String start = "2*addServer() add(10, 50, 0) add(6, 1, 0) add(4, 1, 0) add(2, 1, 1) setFactor(100)";
        Sentence.row(start + " setBudget(50) step(0)=0 step(2)=NONE step(3)=50 plan(0)=1 even(1)=1 count(10)=0");
        Sentence.row(start + " setBudget(49) step(0)=NONE plan(0)=0 plan(3)=20 even(1)=0 count(10)=49");
        // The move is the step where it can be done, though an exchange would make the same for less.
        String both = "2*addServer() add(10, 60, 0) add(11, 5, 0) add(1, 2, 1) setFactor(100)";
        Sentence.row(both + " setBudget(60) step(0)=0 step(2)=NONE step(3)=60 plan(1)=1");
        Sentence.row(both + " setBudget(59) step(0)=1 step(2)=2 step(3)=7 plan(1)=2");
    }

    private static final String EXCHANGED = "Otherwise, of all exchanges of a job of the full server with a job of another"
            + " one, that is a candidate by which the greater one of the two loads is smallest, if it is smaller than the"
            + " load of the full server now; of several the one with the smallest price of both, then the smallest job of"
            + " the full server, then the smallest other job.";

    private static void exchangeOfSmallestLoad() {
        Sentence.ofTerms("10 21 22", EXCHANGED);
        Sentence.row(EXCHANGE + " setFactor(100)=17 step(0)=1 step(1)=1 step(2)=2 step(3)=6 plan(1)=2 plan(3)=17");
        // 39 and 35: 20 by 18 makes 37, for 10; 19 by 18 makes 38, for nothing.
        Sentence.row("2*addServer() add(19, 0, 0) add(20, 10, 0) add(18, 0, 1) add(8, 0, 1) add(9, 0, 1) setFactor(100)=37"
                + " step(0)=1 step(2)=2 step(3)=10");
        // 14, 13 and 12: 7 by 6 of the server 2 makes 13, and by 6 of the server 1 it makes 14.
        Sentence.row("3*addServer() 2*add(7, 0, 0) add(6, 0, 1) add(7, 0, 1) 2*add(6, 0, 2) setFactor(100)=13 step(0)=0"
                + " step(1)=2 step(2)=4");
        // 14 and 3: 4 makes 10, for 60; if that is too much, 10 by 2 makes 11, though it is more than 10.
        String move = "2*addServer() add(10, 1, 0) add(4, 60, 0) add(1, 1, 1) add(2, 1, 1) setFactor(100)=10";
        Sentence.row(move + " setBudget(60) step(0)=1 step(2)=NONE step(3)=60 setBudget(59) step(0)=0 step(1)=1 step(2)=3"
                + " step(3)=2 plan(0)=2 plan(1)=3 even(1)=1 count(5)=11");
        // The full server is 2; it gives more than it takes.
        Sentence.row("3*addServer() 2*add(6, 0, 0) 2*add(6, 0, 1) 2*add(7, 0, 2) setFactor(100)=13 step(0)=4 step(1)=0"
                + " step(2)=0 even(1)=1 job(4, 2)=0 job(0, 2)=2 count(5)=13");
        // A finished job is no other job: without 6 there is 7 alone.
        Sentence.row("2*addServer() 2*add(7, 0, 0) add(6, 0, 1) add(5, 0, 1) add(1, 0, 1) setFactor(100)=13 step(2)=2"
                + " finish(2) add(6, 0, 1) step(2)=5");
    }

    private static void exchangeBelowFull() {
        Sentence.ofTerms("10 21 22", EXCHANGED);
        // 16 by 8 and 8: 8 by 4 makes 16 of 12, but 15 of 11.
        Sentence.row("2*addServer() 2*add(8, 0, 0) add(4, 0, 1) add(8, 0, 1) setFactor(100)=14 step(0)=NONE plan(0)=0"
                + " even(1)=0");
        Sentence.row("2*addServer() 2*add(8, 0, 0) add(4, 0, 1) add(7, 0, 1) setFactor(100)=14 step(0)=0 step(2)=2"
                + " plan(3)=15");
        // 13 and 8: 4 goes for 60; 9 by 4, for 2, makes 4 and 4 to 13 again.
        String dear = "2*addServer() add(4, 60, 0) add(9, 1, 0) 2*add(4, 1, 1) setFactor(100)=11";
        Sentence.row(dear + " setBudget(59) step(0)=NONE plan(0)=0 even(1)=0 setBudget(60) step(0)=0 step(2)=NONE");
        // Jobs of one size change nothing: 16 stay 16.
        Sentence.row("2*addServer() 2*add(8, 0, 0) add(8, 0, 1) setFactor(100)=12 step(0)=NONE");
    }

    private static void exchangeOfSmallestPrice() {
        Sentence.ofTerms("10 21 22", EXCHANGED);
        // 14 and 12: each 7 by each 6 makes 13.
        Sentence.row("2*addServer() add(7, 3, 0) add(7, 2, 0) add(6, 5, 1) add(6, 4, 1) setFactor(100)=13 step(0)=1"
                + " step(2)=3 step(3)=6");
        // 16 and 14: 9 by 8 and 7 by 6 make 15, for 9 and 6, though 9 alone would go for nothing; then for 6 and 6.
        Sentence.row("2*addServer() add(9, 0, 0) add(7, 5, 0) add(8, 9, 1) add(6, 1, 1) setFactor(100)=15 step(0)=1"
                + " step(2)=3 step(3)=6");
        Sentence.row("2*addServer() add(9, 0, 0) add(7, 5, 0) add(8, 7, 1) add(6, 1, 1) setFactor(100)=15 step(0)=1"
                + " step(2)=3 step(3)=6");
        Sentence.row("2*addServer() add(9, 0, 0) add(7, 5, 0) add(8, 6, 1) add(6, 1, 1) setFactor(100)=15 step(0)=0"
                + " step(2)=2 step(3)=6");
        Sentence.row("2*addServer() add(7, 5, 0) add(9, 0, 0) add(6, 1, 1) add(8, 5, 1) setFactor(100)=15 step(0)=1"
                + " step(2)=3 step(3)=5");
    }

    private static void exchangeOfSmallestNumbers() {
        Sentence.ofTerms("10 21 22", EXCHANGED);
        // 14, 12 and 12: the job 1 or 2 by the job 0 (of the server 2), 3, 4 or 5.
        Sentence.row("3*addServer() add(6, 0, 2) 2*add(7, 0, 0) 2*add(6, 0, 1) add(6, 0, 2) setFactor(100)=13 step(0)=1"
                + " step(1)=2 step(2)=0");
        // 9 by 8 is the jobs 0 and 3, 7 by 6 the jobs 1 and 2: the job of the full server comes first.
        Sentence.row("2*addServer() add(9, 2, 0) add(7, 2, 0) add(6, 2, 1) add(8, 2, 1) setFactor(100)=15 step(0)=0"
                + " step(2)=3 step(3)=4");
        Sentence.row("2*addServer() add(7, 2, 0) add(9, 2, 0) add(8, 2, 1) add(6, 2, 1) setFactor(100)=15 step(0)=0"
                + " step(2)=3 step(3)=4");
        // 16 and 12: 8 by 7 and 8 by 5 make 15, so the other job is that of the smaller number.
        Sentence.row("2*addServer() 2*add(8, 0, 0) add(7, 0, 1) add(5, 0, 1) setFactor(100)=14 step(0)=0 step(2)=2");
        Sentence.row("2*addServer() 2*add(8, 0, 0) add(5, 0, 1) add(7, 0, 1) setFactor(100)=14 step(0)=0 step(2)=2");
    }

    private static void exchangeIsStep() {
        Sentence.ofTerms("10 21 22", "If there is a candidate, and the budget allows it, it is the step.");
        // 20 by 18 makes 37 of 39, for 10; 19 by 18 makes 38, for nothing, and is not tried.
        String start = "2*addServer() add(20, 10, 0) add(19, 0, 0) add(18, 0, 1) add(8, 0, 1) add(9, 0, 1) setFactor(100)";
        Sentence.row(start + " setBudget(10) step(0)=0 step(1)=1 step(2)=2 step(3)=10 plan(0)=1 even(1)=1 count(5)=37");
        Sentence.row(start + " setBudget(9) step(0)=NONE plan(0)=0 even(1)=0 count(5)=39");
    }

    private static void noStep() {
        Sentence.ofTerms("10 21 22", "Otherwise there is no step.");
        String none = " step(0)=NONE step(1)=NONE step(2)=NONE step(3)=NONE plan(0)=0 plan(1)=0 plan(2)=0 even(30)=0";
        // No candidate at all; a dear move alone; a dear exchange alone; both of them dear.
        Sentence.row("2*addServer() 2*add(5, 0, 0) add(5, 0, 1) setFactor(100)" + none + " count(5)=10");
        Sentence.row("2*addServer() 2*add(5, 1, 0) setBudget(0) setFactor(100)" + none + " count(5)=10");
        Sentence.row(EXCHANGE + " setBudget(5) setFactor(100)" + none + " count(5)=19");
        Sentence.row("2*addServer() add(10, 60, 0) add(11, 5, 0) add(1, 2, 1) setBudget(6) setFactor(100)" + none
                + " count(5)=21");
    }

    private static final String PLAN = "The plan is the row of steps, each chosen behind the one before, until the loads"
            + " are even, there is no step, or there are 30 steps.";

    private static void planUntilEven() {
        Sentence.ofTerms("10 22", PLAN);
        // 60, 0, 0; 50, 10, 0; 40, 20, 0; 30, 30, 0, with the bound 20 and the target 60, 59, 40, 39.
        String start = "3*addServer() add(10, 1, 0) add(10, 2, 0) add(10, 4, 0) 3*add(10, 8, 0)";
        Sentence.row(start + " setFactor(300)=60 plan(0)=0 plan(2)=0 plan(3)=60 plan(4)=1");
        Sentence.row(start + " setFactor(299)=59 plan(0)=1 plan(2)=1 plan(3)=50 plan(4)=1");
        Sentence.row(start + " setFactor(200)=40 plan(0)=2 plan(2)=3 plan(3)=40 plan(4)=1 even(30)=2 count(5)=40");
        Sentence.row(start + " setFactor(199)=39 plan(0)=3 plan(2)=7 plan(3)=30 plan(4)=1 even(30)=3 count(5)=30");
        // 30, 20, 10 of the steps behind one another: the job 0 goes to the server 1, and from there to the server 2.
        Sentence.row(start + " setFactor(100)=20 plan(0)=5 plan(1)=5 plan(2)=16 plan(3)=20 plan(4)=1 even(3)=3 step(0)=3"
                + " step(1)=2 even(1)=1 step(0)=0 step(1)=2 even(30)=1 job(0, 3)=2 count(10)=484 count(9)=1");
    }

    private static void planUntilNoStep() {
        Sentence.ofTerms("10 22", PLAN);
        Sentence.row("2*addServer() 3*add(9, 0, 0) setFactor(100)=14 plan(0)=1 plan(3)=18 plan(4)=0 even(30)=1 even(30)=0"
                + " count(5)=18 count(9)=0");
        Sentence.row("3*addServer() 6*add(10, 4, 0) setBudget(19) plan(0)=4 plan(2)=16 plan(3)=30 plan(4)=0 even(30)=4"
                + " count(10)=3 even(30)=0");
    }

    private static void planOfThirty() {
        Sentence.ofTerms("10 22", PLAN);
        // 24 jobs of one size on 1 of 6 servers: 12 steps to 12 12, 8 more to 8 8 8, 6 more to 6 6 6 6, 4 more to
        // 5 5 5 5 4 0, which are 30, and 4 more to 4 4 4 4 4 4.
        String start = "6*addServer() 24*add(7, 1, 0) setFactor(100)";
        Sentence.row(start + " plan(0)=30 plan(1)=30 plan(2)=30 plan(3)=35 plan(4)=0 even(30)=30 count(5)=35 count(12)=30"
                + " count(10)=470 plan(0)=4 plan(4)=1 even(30)=4 count(5)=28");
        Sentence.row(start + " even(3)=3 plan(0)=30 plan(4)=0 even(1)=1 plan(0)=30 plan(3)=28 plan(4)=1 even(1)=1"
                + " plan(0)=29 plan(4)=1 even(30)=29 count(9)=1");
        Sentence.row(start + " even(29)=29 count(12)=29 even(1)=1 count(5)=35");
    }

    private static final String CLOSES = "When a server closes, its jobs are moved one after the other, the greatest size"
            + " first (of the same size the smaller price first, then the smaller number), each to the open server with the"
            + " smallest load then, of several the one with the smallest number.";

    private static void leavingOrder() {
        Sentence.ofTerms("11 20 24", CLOSES);
        // The order is told by the server to which each one goes: 1, 2, 3, 4 and 5 are empty.
        String empty = "6*addServer() ";
        Sentence.row(empty + "add(5, 0, 0) add(6, 9, 0) add(4, 0, 0) leaving(0, 0)=1 leaving(0, 1)=0 leaving(0, 2)=2"
                + " close(0)=3 job(1, 2)=1 job(0, 2)=2 job(2, 2)=3");
        Sentence.row(empty + "add(5, 2, 0) add(5, 3, 0) add(5, 1, 0) leaving(0, 0)=2 leaving(0, 1)=0 leaving(0, 2)=1"
                + " close(0)=3 job(2, 2)=1 job(0, 2)=2 job(1, 2)=3");
        Sentence.row(empty + "3*add(5, 2, 0) leaving(0, 0)=0 leaving(0, 1)=1 leaving(0, 2)=2 close(0)=3 job(0, 2)=1"
                + " job(1, 2)=2 job(2, 2)=3");
        Sentence.row(empty + "add(5, 100, 0) add(5, 0, 0) add(1, 0, 0) add(1000, 100, 0) close(0)=4 job(3, 2)=1 job(1, 2)=2"
                + " job(0, 2)=3 job(2, 2)=4");
        // The size comes before the price, and the price before the number.
        Sentence.row(empty + "add(4, 0, 0) add(5, 9, 0) add(5, 8, 0) add(5, 8, 0) close(0)=4 job(2, 2)=1 job(3, 2)=2"
                + " job(1, 2)=3 job(0, 2)=4");
    }

    private static void leavingTo() {
        Sentence.ofTerms("11 24", CLOSES);
        // 9 to the server 3 with 1, then 7 to the server 1 with 2, then 3 to the server 2 with 8.
        String start = "4*addServer() add(3, 0, 0) add(9, 0, 0) add(7, 0, 0) add(2, 0, 1) add(8, 0, 2) add(1, 0, 3)";
        Sentence.row(start + " without(0)=11 close(0)=3 job(1, 2)=3 job(2, 2)=1 job(0, 2)=2 count(5)=11");
        // Of the loads 3, 2, 2 the second one is the smallest one, of 2, 2, 2 the first one; then 3 is not 2.
        Sentence.row("4*addServer() add(1, 0, 0) add(3, 0, 1) add(2, 0, 2) add(2, 0, 3) close(0) job(0, 2)=2");
        Sentence.row("4*addServer() add(1, 0, 0) add(2, 0, 1) add(2, 0, 2) add(2, 0, 3) close(0) job(0, 2)=1");
        Sentence.row("4*addServer() add(1, 0, 3) add(2, 0, 0) add(2, 0, 1) add(2, 0, 2) close(3) job(0, 2)=0");
        Sentence.row("4*addServer() 3*add(1, 0, 0) add(1, 0, 1) close(0) job(0, 2)=2 job(1, 2)=3 job(2, 2)=1");
        // Not to a closed one, and not back to itself, though both have less.
        Sentence.row("4*addServer() add(5, 0, 1) add(9, 0, 2) add(9, 0, 3) close(0) without(1)=14 close(1)=1 job(0, 2)=2");
        Sentence.row("2*addServer() 2*add(1, 0, 0) add(900, 0, 1) without(0)=902 close(0)=2 job(0, 2)=1 job(1, 2)=1");
    }

    private static void closingIsPaid() {
        Sentence.ofTerms("11 17 19", "These moves count as moves, and their prices are taken from the budget, which must"
                + " allow all of them together.");
        String start = "3*addServer() add(5, 3, 0) add(6, 4, 0) add(7, 9, 1)";
        Sentence.row(start + " close(0)=2 count(12)=2 count(10)=493 job(0, 3)=1 job(1, 3)=1 job(2, 3)=0 close(2)=2"
                + " count(12)=4 count(10)=486 job(0, 3)=2 job(1, 3)=2 job(2, 3)=0");
        Sentence.refused(Due.ILLEGAL, start + " setBudget(6)", "close(0)");
        Sentence.refused(Due.ILLEGAL, start + " setBudget(0)", "close(0)");
        Sentence.row(start + " setBudget(7) close(0)=2 count(10)=0");
        Sentence.row(start + " setBudget(0) close(2)=0 count(12)=0 count(10)=0");
        String full = "2*addServer() 24*add(9, 100, 0)";
        Sentence.refused(Due.ILLEGAL, full + " setBudget(2399)", "close(0)");
        Sentence.row(full + " setBudget(2400) close(0)=24 count(10)=0 count(12)=24 count(5)=216");
    }
}
