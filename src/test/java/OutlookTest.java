/** Promises 21 to 24: step, plan, fewest, without. */
public final class OutlookTest {
    private static final int[] FAR = {-1, Integer.MIN_VALUE, Integer.MAX_VALUE};

    public static void main(String[] args) {
        stepMoves();
        stepTies();
        stepExchanges();
        exchangeTies();
        stepByBudget();
        noStep();
        plan();
        planByBudget();
        planWithoutEnd();
        fewest();
        fewestTwo();
        fewestOverAnother();
        without();
        withoutByOrder();
        Due.end();
    }

    private static void steps(EvenLoads x, int job, int server, int other, int price) {
        int[] want = {job, server, other, price};
        for (int what = 0; what < 4; what++) {
            Due.due("21 step(" + what + ")", x.step(what), want[what]);
        }
        Due.due("21 out of range", x.step(4), Due.INVALID);
        for (int far : FAR) {
            Due.due("21 out of range", x.step(far), Due.INVALID);
        }
    }

    private static void noSteps(EvenLoads x) {
        steps(x, Due.NONE, Due.NONE, Due.NONE, Due.NONE);
    }

    private static void stepMoves() {
        EvenLoads x = Due.servers(3);
        x.add(10, 1, 1);
        x.add(30, 2, 1);
        x.add(20, 3, 1);
        x.add(5, 4, 2);
        // The load 60: behind a move to the server 0 it is 50, 30 or 40.
        steps(x, 1, 0, Due.NONE, 2);
        x.add(60, 5, 0);
        // The servers 0 and 1 have 60, so 0 is the full one; its only job makes 65 of the server 2.
        // The exchanges of it for 10, 30, 20 or 5 make 110, 90, 100 and 60 or more: no candidate.
        x.setFactor(100);
        Due.due("21 the bound", x.count(7), 60);
        noSteps(x);
        x.finish(4);
        x.close(2);
        // Two servers now: the job 3 (5) went to the server 0, and the server 1 has 60.
        steps(x, 1, 0, Due.NONE, 2);
    }

    private static void stepTies() {
        EvenLoads x = Due.servers(4);
        x.add(100, 0, 3);
        x.add(20, 9, 0);
        x.add(20, 7, 0);
        x.add(20, 7, 0);
        x.add(50, 3, 0);
        x.setFactor(100);
        // The servers 1 and 2 are empty. 110 less 50 is 60, and no other move is so good.
        steps(x, 4, 1, Due.NONE, 3);
        x.finish(4);
        x.add(45, 0, 3);
        // The server 3 has 145: 45 to the server 1 or 2 makes 100, and so does 100, which is moved
        // for 0 too: the job 0 has the smaller number, and the server 1 as well.
        steps(x, 0, 1, Due.NONE, 0);
        EvenLoads y = Due.servers(2);
        y.add(20, 9, 0);
        y.add(20, 7, 0);
        y.add(20, 7, 0);
        y.setFactor(100);
        steps(y, 1, 1, Due.NONE, 7);
        EvenLoads z = Due.servers(3);
        z.add(20, 5, 1);
        z.add(20, 5, 2);
        z.add(20, 5, 2);
        z.add(20, 5, 1);
        z.setFactor(100);
        // The full server is 1, not 2; the job 0 is the first one.
        steps(z, 0, 0, Due.NONE, 5);
    }

    private static void stepExchanges() {
        EvenLoads x = Due.servers(2);
        x.add(10, 1, 0);
        x.add(9, 2, 0);
        x.add(7, 4, 1);
        x.add(8, 8, 1);
        x.setFactor(100);
        // 19 and 15, the bound is 17: a move makes 24 or more. The exchanges make of 19 and 15:
        // 10 by 7: 16, 18; 10 by 8: 17, 17; 9 by 7: 17, 17; 9 by 8: 18, 16.
        steps(x, 1, 1, 2, 6);
        x.setBudget(6);
        steps(x, 1, 1, 2, 6);
        x.setBudget(5);
        noSteps(x);
        x.setBudget(6);
        Due.due("21 it is done", x.even(1), 1);
        Due.due("21 load", x.server(0, 1), 17);
        Due.due("21 two moves", x.count(12), 2);
        Due.due("21 budget", x.count(10), 0);
        Due.due("21 server", x.job(1, 2), 1);
        Due.due("21 server", x.job(2, 2), 0);
    }

    private static void exchangeTies() {
        EvenLoads x = Due.servers(3);
        x.add(6, 0, 2);
        x.add(8, 3, 0);
        x.add(8, 3, 0);
        x.add(6, 4, 1);
        x.add(6, 4, 1);
        x.add(6, 4, 2);
        x.setFactor(100);
        // 16, 12, 12; the bound is 14: an exchange of 8 by 6 makes 14 and 14. The job 0 is free.
        steps(x, 1, 2, 0, 3);
        x.finish(0);
        x.add(6, 5, 2);
        // Now the other jobs 3, 4 and 5 cost 4 each.
        steps(x, 1, 1, 3, 7);
    }

    private static void stepByBudget() {
        EvenLoads x = Due.servers(2);
        x.add(10, 50, 0);
        x.add(6, 1, 0);
        x.add(4, 1, 0);
        x.add(2, 1, 1);
        x.setFactor(100);
        // 20 and 2: the best move is that of 10 (10 and 12), but it is dear.
        steps(x, 0, 1, Due.NONE, 50);
        x.setBudget(49);
        // No other move is tried, but the exchanges are: 10 by 2 makes 12 and 10, for 51: too dear.
        noSteps(x);
        EvenLoads y = Due.servers(2);
        y.add(9, 50, 0);
        y.add(9, 50, 0);
        y.add(9, 1, 0);
        y.add(2, 1, 1);
        y.setFactor(100);
        y.setBudget(1);
        // 27 and 2: 9 for 1 makes 18.
        steps(y, 2, 1, Due.NONE, 1);
        y.even(1);
        y.setBudget(1);
        // 18 and 11; the bound is 15: 9 makes 20, so the exchanges: 9 by 2 makes 11 and 18, no.
        noSteps(y);
        EvenLoads z = Due.servers(2);
        z.add(12, 90, 0);
        z.add(12, 90, 0);
        z.add(1, 1, 1);
        z.add(12, 40, 0);
        z.add(2, 0, 1);
        z.setBudget(89);
        z.setFactor(100);
        // 36 and 3: 12 for 40 makes 24 and 15.
        steps(z, 3, 1, Due.NONE, 40);
        z.setBudget(39);
        // Too dear; the exchange 12 by 2 makes 26, 13 for 40: too dear, and 12 by 1 makes 25, 14 for 41.
        noSteps(z);
        exchangeInsteadOfMove();
    }

    private static void exchangeInsteadOfMove() {
        EvenLoads x = Due.servers(2);
        x.add(10, 60, 0);
        x.add(11, 5, 0);
        x.add(1, 2, 1);
        x.setFactor(100);
        // 21 and 1: 10 goes best (11 and 11), for 60. The exchange of 11 by 1 makes 11 and 11, for 7.
        steps(x, 0, 1, Due.NONE, 60);
        x.setBudget(59);
        steps(x, 1, 1, 2, 7);
        x.setBudget(6);
        noSteps(x);
        EvenLoads y = Due.servers(2);
        y.add(10, 1, 0);
        y.add(4, 60, 0);
        y.add(1, 1, 1);
        y.add(2, 1, 1);
        y.setFactor(100);
        // 14 and 3: 4 goes best (10 and 7), for 60. The exchange of 10 by 2 makes 6 and 11 only.
        steps(y, 1, 1, Due.NONE, 60);
        y.setBudget(59);
        steps(y, 0, 1, 3, 2);
    }

    private static void noStep() {
        noSteps(new EvenLoads());
        noSteps(Due.servers(2));
        EvenLoads x = Due.servers(1);
        x.add(5, 5, 0);
        noSteps(x);
        EvenLoads y = Due.servers(2);
        y.add(6, 0, 0);
        y.add(5, 0, 1);
        // Even, though 6 by 5 would be possible.
        noSteps(y);
        EvenLoads z = Due.servers(3);
        z.add(6, 0, 0);
        z.add(6, 0, 0);
        z.close(2);
        z.close(1);
        // Even on the only open server.
        noSteps(z);
        z.open(2);
        steps(z, 0, 2, Due.NONE, 0);
    }

    private static void plans(EvenLoads x, int... want) {
        for (int what = 0; what < 5; what++) {
            Due.due("22 plan(" + what + ")", x.plan(what), want[what]);
        }
        Due.due("22 out of range", x.plan(5), Due.INVALID);
        for (int far : FAR) {
            Due.due("22 out of range", x.plan(far), Due.INVALID);
        }
    }

    private static void plan() {
        plans(new EvenLoads(), 0, 0, 0, 0, 1);
        EvenLoads x = Due.servers(3);
        plans(x, 0, 0, 0, 0, 1);
        for (int i = 0; i < 6; i++) {
            x.add(10, 1 + i, 0);
        }
        String before = Due.picture(x);
        // The jobs 0, 1 and 2 to the server 1, 3 to the server 2, then 0 from 1 to 2.
        plans(x, 5, 5, 11, 20, 1);
        Due.same("22 nothing changes", Due.picture(x), before);
        EvenLoads y = Due.servers(2);
        y.add(10, 1, 0);
        y.add(9, 2, 0);
        y.add(7, 4, 1);
        y.add(8, 8, 1);
        y.setFactor(100);
        plans(y, 1, 2, 6, 17, 1);
        y.move(0, 1);
        y.move(0, 0);
        plans(y, 1, 2, 6, 17, 1);
    }

    private static void planByBudget() {
        EvenLoads x = Due.servers(3);
        for (int i = 0; i < 6; i++) {
            x.add(10, 4, 0);
        }
        x.setBudget(11);
        plans(x, 2, 2, 8, 40, 0);
        x.setBudget(0);
        plans(x, 0, 0, 0, 60, 0);
        x.setBudget(19);
        plans(x, 4, 4, 16, 30, 0);
        x.setBudget(20);
        plans(x, 5, 5, 20, 20, 1);
    }

    private static void planWithoutEnd() {
        // A plan that ends without being even, as there is no candidate.
        EvenLoads x = Due.servers(2);
        x.add(9, 0, 0);
        x.add(9, 0, 0);
        x.add(9, 0, 0);
        x.setFactor(100);
        plans(x, 1, 1, 0, 18, 0);
        x.add(1, 0, 1);
        // 27 and 1: 9 makes 18 and 10; 28 halved is 14, and no exchange makes less than 18.
        plans(x, 1, 1, 0, 18, 0);
    }

    private static void fewests(EvenLoads x, int number, int price) {
        Due.due("23 fewest(0)", x.fewest(0), number);
        Due.due("23 fewest(1)", x.fewest(1), price);
        Due.due("23 out of range", x.fewest(2), Due.INVALID);
        for (int far : FAR) {
            Due.due("23 out of range", x.fewest(far), Due.INVALID);
        }
    }

    private static void fewest() {
        fewests(new EvenLoads(), 0, 0);
        EvenLoads x = Due.servers(2);
        fewests(x, 0, 0);
        x.add(10, 30, 0);
        fewests(x, 0, 0);
        x.add(10, 20, 0);
        String before = Due.picture(x);
        fewests(x, 1, 20);
        x.setBudget(0);
        fewests(x, 1, 20);
        x.setBudget(500);
        Due.same("23 nothing changes", Due.picture(x), before);
        x.add(10, 70, 0);
        x.add(10, 80, 0);
        fewests(x, 2, 50);
        x.add(10, 0, 0);
        x.add(10, 0, 0);
        // Six jobs of 10 on one of two servers: the target is 36, so three must go.
        fewests(x, Due.NONE, Due.NONE);
        x.finish(4);
        // Five: the bound is 25, the target 30, so two must go.
        fewests(x, 2, 20);
        x.close(1);
        fewests(x, 0, 0);
    }

    private static void fewestTwo() {
        EvenLoads x = Due.servers(3);
        x.add(30, 1, 0);
        x.add(29, 2, 0);
        x.add(28, 3, 1);
        x.add(2, 4, 1);
        x.setFactor(100);
        // 59, 30, 0 with the bound 30: the job 0 or 1 must go to the server 2; one move does it.
        fewests(x, 1, 1);
        x.add(1, 5, 2);
        // 59, 30, 1: the job 1 to the server 2 makes 30 there; the job 0 would make 31.
        fewests(x, 1, 2);
        x.add(1, 6, 2);
        // 59, 30, 2 with the bound 31: 29 to the server 2 makes 31.
        fewests(x, 1, 2);
        x.finish(4);
        x.finish(5);
        x.add(32, 9, 1);
        // 59, 62, 0 with the bound 41: both the servers 0 and 1 must give, and only one can take.
        fewests(x, Due.NONE, Due.NONE);
    }

    private static void fewestOverAnother() {
        // 15, 8 and 6 by 3, the bound is 10: the job 1 (5) must go, but the servers 1 and 2 have too
        // much; the job 3 (3) leaves the server 1, which is not full, for the server 2.
        EvenLoads x = Due.servers(3);
        x.add(10, 9, 0);
        x.add(5, 2, 0);
        x.add(5, 50, 1);
        x.add(3, 4, 1);
        x.add(6, 50, 2);
        x.setFactor(100);
        fewests(x, 2, 6);
        // Two jobs change places: also two moves of different jobs.
        EvenLoads y = Due.servers(2);
        y.add(10, 1, 0);
        y.add(9, 2, 0);
        y.add(7, 4, 1);
        y.add(8, 8, 1);
        y.setFactor(100);
        fewests(y, 2, 6);
        // Never to a closed server.
        EvenLoads z = Due.servers(3);
        z.add(10, 1, 0);
        z.add(10, 2, 0);
        z.add(10, 3, 1);
        z.setFactor(100);
        fewests(z, 1, 1);
        z.close(2);
        // The bound is 15 now: 20 and 10.
        fewests(z, Due.NONE, Due.NONE);
    }

    private static void without() {
        EvenLoads x = Due.servers(3);
        Due.due("24 without jobs", x.without(0), 0);
        x.add(9, 90, 0);
        x.add(7, 90, 0);
        x.add(5, 90, 1);
        x.add(3, 90, 2);
        x.setBudget(0);
        String before = Due.picture(x);
        // 9 to the server 2 (12), then 7 to the server 1 (12).
        Due.due("24 without(0)", x.without(0), 12);
        Due.due("24 without(1)", x.without(1), 16);
        Due.due("24 without(2)", x.without(2), 16);
        Due.same("24 nothing changes", Due.picture(x), before);
        Due.due("24 no action", x.count(13), 5);
        for (int far : FAR) {
            Due.due("24 no such server", x.without(far), Due.INVALID);
        }
        Due.due("24 no such server", x.without(3), Due.INVALID);
        x.setBudget(1000);
        x.close(1);
        Due.due("24 closed", x.without(1), Due.ILLEGAL);
        Due.due("24 two are open", x.without(0), 24);
        x.close(2);
        Due.due("24 the only open one", x.without(0), Due.ILLEGAL);
        Due.due("24 closed", x.without(2), Due.ILLEGAL);
    }

    private static void withoutByOrder() {
        // 6 to the server 1, 5 to the server 2, 4 to the server 2, 3 to the server 1: 9 and 9.
        EvenLoads x = Due.servers(3);
        for (int size : new int[] {3, 5, 6, 4}) {
            x.add(size, 100, 0);
        }
        Due.due("24 without(0)", x.without(0), 9);
        x.add(50, 0, 1);
        // Now all of them go to the server 2.
        Due.due("24 without(0)", x.without(0), 50);
        x.finish(4);
        Due.due("24 as close does it", x.close(0), 4);
        Due.due("24 as close does it", x.count(5), 9);
    }
}
