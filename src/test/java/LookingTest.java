/** Promises 17 to 20: count, server, job, leaving. */
public final class LookingTest {
    private static final int[] FAR = {-1, Integer.MIN_VALUE, Integer.MAX_VALUE};

    public static void main(String[] args) {
        count();
        countBound();
        countClosed();
        countIsNoAction();
        server();
        serverShares();
        job();
        leaving();
        Due.end();
    }

    private static void counts(EvenLoads x, int... want) {
        for (int what = 0; what < want.length; what++) {
            Due.due("17 count(" + what + ")", x.count(what), want[what]);
        }
    }

    private static void count() {
        EvenLoads x = Due.servers(3);
        counts(x, 3, 3, 0, 0, 0, 0, 0, 0, 0, 1, 500, 120, 0, 3, 0);
        x.add(10, 7, 0);
        x.add(20, 8, 0);
        x.add(5, 9, 1);
        // The sum 35 by 3 is rounded up to 12, but the greatest size is 20.
        counts(x, 3, 3, 3, 0, 35, 30, 0, 20, 24, 0, 500, 120, 0, 5, 0);
        x.move(0, 1);
        x.append('p');
        counts(x, 3, 3, 3, 0, 35, 20, 0, 20, 24, 1, 493, 120, 1, 5, 1);
        x.finish(1);
        counts(x, 3, 3, 3, 1, 15, 15, 0, 10, 12, 0, 493, 120, 1, 5, 1);
        x.add(4, 0, 0);
        x.add(3, 0, 2);
        counts(x, 3, 3, 5, 1, 22, 15, 3, 10, 12, 0, 493, 120, 1, 5, 1);
        Due.due("17 out of range", x.count(15), Due.INVALID);
        for (int what : FAR) {
            Due.due("17 out of range", x.count(what), Due.INVALID);
        }
    }

    private static void countBound() {
        EvenLoads x = Due.servers(2);
        x.add(5, 0, 0);
        x.add(5, 0, 0);
        x.add(5, 0, 0);
        Due.due("17 rounded up", x.count(7), 8);
        Due.due("17 rounded down", x.count(8), 9);
        x.add(5, 0, 1);
        Due.due("17 exactly", x.count(7), 10);
        x.setFactor(150);
        Due.due("17 a load on the target is even", x.count(9), 1);
        x.setFactor(149);
        Due.due("17 a load above it is not", x.count(9), 0);
        x.finish(0);
        x.finish(1);
        x.finish(2);
        Due.due("17 the greatest size", x.count(7), 5);
        x.finish(3);
        Due.due("17 all are finished", x.count(3), 4);
        Due.due("17 no job that is not finished", x.count(7), 0);
        Due.due("17 target", x.count(8), 0);
        Due.due("17 even", x.count(9), 1);
    }

    private static void countClosed() {
        EvenLoads x = Due.servers(3);
        x.add(10, 0, 0);
        x.add(20, 0, 1);
        x.add(30, 0, 2);
        x.close(0);
        // 10 went to the server 1.
        Due.due("17 servers", x.count(0), 3);
        Due.due("17 open", x.count(1), 2);
        Due.due("17 smallest of the open ones", x.count(6), 30);
        Due.due("17 by the open ones", x.count(7), 30);
        Due.due("17 moves", x.count(12), 1);
        x.close(1);
        Due.due("17 smallest of the open ones", x.count(6), 60);
        Due.due("17 by the open one", x.count(7), 60);
        x.open(0);
        Due.due("17 smallest", x.count(6), 0);
    }

    private static void countIsNoAction() {
        EvenLoads x = Due.servers(2);
        x.add(10, 1, 0);
        x.add(10, 1, 0);
        String before = Due.picture(x);
        x.server(0, 4);
        x.job(0, 3);
        x.leaving(0, 0);
        x.step(0);
        x.plan(0);
        x.fewest(0);
        x.without(0);
        Due.same("17 looking changes nothing", Due.picture(x), before);
        Due.due("17 nor the history", x.count(13), 4);
    }

    private static void server() {
        EvenLoads x = Due.servers(2);
        x.add(10, 1, 0);
        x.add(20, 1, 1);
        x.add(30, 1, 0);
        x.add(40, 1, 0);
        x.finish(2);
        int[][] want = {{1, 50, 2, 714, 9}, {1, 20, 1, 285, 2}};
        for (int server = 0; server < 2; server++) {
            for (int what = 0; what < 5; what++) {
                Due.due("18 server(" + server + ", " + what + ")", x.server(server, what), want[server][what]);
            }
        }
        x.close(0);
        int[][] then = {{0, 0, 0, 0, 0}, {1, 70, 3, 1000, 11}};
        for (int server = 0; server < 2; server++) {
            for (int what = 0; what < 5; what++) {
                Due.due("18 server(" + server + ", " + what + ")", x.server(server, what), then[server][what]);
            }
        }
        Due.due("18 no such server", x.server(2, 0), Due.INVALID);
        Due.due("18 out of range", x.server(0, 5), Due.INVALID);
        for (int far : FAR) {
            Due.due("18 no such server", x.server(far, 0), Due.INVALID);
            Due.due("18 out of range", x.server(0, far), Due.INVALID);
        }
    }

    private static void serverShares() {
        EvenLoads x = Due.servers(1);
        Due.due("18 of nothing", x.server(0, 3), 0);
        x.add(1, 0, 0);
        Due.due("18 of the least sum", x.server(0, 3), 1000);
        EvenLoads y = Due.servers(6);
        for (int job = 0; job < 24; job++) {
            y.add(1000, 0, 5);
        }
        Due.due("18 all", y.server(5, 3), 1000);
        Due.due("18 load", y.server(5, 1), 24000);
        Due.due("18 jobs", y.server(5, 2), 24);
        Due.due("18 the set", y.server(5, 4), (1 << 24) - 1);
        Due.due("18 the empty set", y.server(0, 4), 0);
        y.move(23, 0);
        Due.due("18 the set", y.server(0, 4), 1 << 23);
        Due.due("18 thousandths", y.server(0, 3), 41);
    }

    private static void job() {
        EvenLoads x = Due.servers(2);
        x.add(10, 1, 0);
        x.add(20, 2, 1);
        x.move(0, 1);
        x.move(0, 0);
        int[][] want = {{10, 1, 0, 2}, {20, 2, 1, 0}};
        for (int job = 0; job < 2; job++) {
            for (int what = 0; what < 4; what++) {
                Due.due("19 job(" + job + ", " + what + ")", x.job(job, what), want[job][what]);
            }
        }
        x.finish(0);
        int[] then = {10, 1, Due.NONE, 2};
        for (int what = 0; what < 4; what++) {
            Due.due("19 finished: job(0, " + what + ")", x.job(0, what), then[what]);
        }
        Due.due("19 no such job", x.job(2, 0), Due.INVALID);
        Due.due("19 out of range", x.job(0, 4), Due.INVALID);
        for (int far : FAR) {
            Due.due("19 no such job", x.job(far, 0), Due.INVALID);
            Due.due("19 out of range", x.job(0, far), Due.INVALID);
        }
    }

    private static void leaving() {
        EvenLoads x = Due.servers(3);
        x.add(5, 3, 0);
        x.add(5, 2, 0);
        x.add(6, 9, 0);
        x.add(5, 2, 0);
        x.add(9, 0, 1);
        x.add(4, 0, 0);
        int[] want = {2, 1, 3, 0, 5};
        for (int index = 0; index < want.length; index++) {
            Due.due("20 leaving(0, " + index + ")", x.leaving(0, index), want[index]);
        }
        Due.due("20 not so many", x.leaving(0, 5), Due.NONE);
        Due.due("20 not so many", x.leaving(0, Integer.MAX_VALUE), Due.NONE);
        Due.due("20 the other one", x.leaving(1, 0), 4);
        Due.due("20 no jobs", x.leaving(2, 0), Due.NONE);
        Due.due("20 negative", x.leaving(0, -1), Due.INVALID);
        Due.due("20 negative", x.leaving(2, Integer.MIN_VALUE), Due.INVALID);
        Due.due("20 no such server", x.leaving(3, 0), Due.INVALID);
        for (int far : FAR) {
            Due.due("20 no such server", x.leaving(far, 0), Due.INVALID);
        }
        x.finish(1);
        Due.due("20 a finished one is not there", x.leaving(0, 1), 3);
        x.close(2);
        Due.due("20 a closed one", x.leaving(2, 0), Due.NONE);
    }
}
