/** Promises 1 to 6: a new object, addServer, add, finish, setBudget, setFactor. */
public final class ServersAndJobsTest {
    public static void main(String[] args) {
        newObject();
        addServer();
        addChecksArguments();
        addChecksState();
        addIsAnAction();
        finish();
        finishChecks();
        setBudget();
        setFactor();
        setFactorRounds();
        Due.end();
    }

    private static void newObject() {
        EvenLoads x = new EvenLoads();
        int[] want = {0, 0, 0, 0, 0, 0, 0, 0, 0, 1, 500, 120, 0, 0, 0};
        for (int what = 0; what < want.length; what++) {
            Due.due("1 count(" + what + ")", x.count(what), want[what]);
        }
        Due.due("1 server(0, 0)", x.server(0, 0), Due.INVALID);
        Due.due("1 job(0, 0)", x.job(0, 0), Due.INVALID);
        Due.due("1 undo()", x.undo(), Due.ILLEGAL);
        Due.due("1 clearText()", x.clearText(), 0);
        EvenLoads other = new EvenLoads();
        other.addServer();
        Due.due("1 objects are apart", x.count(0), 0);
    }

    private static void addServer() {
        EvenLoads x = new EvenLoads();
        for (int server = 0; server < 6; server++) {
            Due.due("2 addServer()", x.addServer(), server);
            Due.due("2 is open", x.server(server, 0), 1);
            Due.due("2 has no load", x.server(server, 1), 0);
            Due.due("2 count(0)", x.count(0), server + 1);
            Due.due("2 count(1)", x.count(1), server + 1);
            Due.due("2 is an action", x.count(13), Math.min(server + 1, 5));
        }
        x.undo();
        Due.due("2 undone", x.count(0), 5);
        Due.due("2 states", x.count(13), 4);
        Due.due("2 again", x.addServer(), 5);
        x.undo();
        x.addServer();
        Due.due("2 a seventh one", x.addServer(), Due.FULL);
        Due.due("2 no action", x.count(13), 5);
        x.close(3);
        Due.due("2 closed ones count too", x.addServer(), Due.FULL);
        EvenLoads y = Due.servers(2);
        y.close(1);
        y.undo();
        y.undo();
        Due.due("2 a server again", y.addServer(), 1);
        Due.due("2 open again", y.server(1, 0), 1);
    }

    private static void addChecksArguments() {
        EvenLoads x = new EvenLoads();
        Due.due("3 no servers", x.add(1, 0, 0), Due.INVALID);
        x.addServer();
        x.addServer();
        String before = Due.picture(x);
        int[][] bad = {
            {0, 0, 0}, {-1, 0, 0}, {1001, 0, 0}, {Integer.MIN_VALUE, 0, 0}, {Integer.MAX_VALUE, 0, 0},
            {1, -1, 0}, {1, 101, 0}, {1, Integer.MAX_VALUE, 0}, {1, 0, -1}, {1, 0, 2},
            {1, 0, Integer.MAX_VALUE}, {1, 0, Integer.MIN_VALUE},
        };
        for (int[] row : bad) {
            Due.due("3 add wrongly", x.add(row[0], row[1], row[2]), Due.INVALID);
        }
        Due.same("3 nothing changed", Due.picture(x), before);
        Due.due("3 no action", x.count(13), 2);
        Due.due("3 least", x.add(1, 0, 0), 0);
        Due.due("3 most", x.add(1000, 100, 1), 1);
        Due.due("3 size", x.job(0, 0), 1);
        Due.due("3 price", x.job(0, 1), 0);
        Due.due("3 size", x.job(1, 0), 1000);
        Due.due("3 price", x.job(1, 1), 100);
        Due.due("3 server", x.job(1, 2), 1);
        Due.due("3 not moved", x.job(1, 3), 0);
    }

    private static void addChecksState() {
        EvenLoads x = Due.servers(2);
        x.close(0);
        Due.due("3 closed", x.add(5, 5, 0), Due.ILLEGAL);
        Due.due("3 range before closed", x.add(0, 5, 0), Due.INVALID);
        for (int job = 0; job < 24; job++) {
            Due.due("3 add", x.add(job + 1, job, 1), job);
        }
        x.finish(7);
        Due.due("3 finished ones included", x.add(1, 1, 1), Due.FULL);
        Due.due("3 closed before room", x.add(1, 1, 0), Due.ILLEGAL);
        Due.due("3 range before room", x.add(1, 101, 1), Due.INVALID);
        Due.due("3 count(2)", x.count(2), 24);
        Due.due("3 count(4)", x.count(4), 300 - 8);
    }

    private static void addIsAnAction() {
        EvenLoads x = Due.servers(1);
        x.add(10, 1, 0);
        Due.due("3 is an action", x.count(13), 2);
        x.add(20, 2, 0);
        Due.due("3 load", x.server(0, 1), 30);
        Due.due("3 no money for it", x.count(10), 500);
        Due.due("3 no move", x.count(12), 0);
        x.undo();
        Due.due("3 undone", x.server(0, 1), 10);
        Due.due("3 undone", x.count(2), 1);
        Due.due("3 add again", x.add(7, 7, 0), 1);
        Due.due("3 the new size", x.job(1, 0), 7);
        EvenLoads y = Due.servers(2);
        y.add(4, 1, 0);
        y.move(0, 1);
        y.undo();
        y.undo();
        y.add(4, 1, 0);
        Due.due("3 a new job was never moved", y.job(0, 3), 0);
    }

    private static void finish() {
        EvenLoads x = Due.servers(2);
        x.add(10, 1, 0);
        x.add(20, 2, 0);
        x.add(5, 3, 1);
        Due.due("4 finish(1)", x.finish(1), 10);
        Due.due("4 server", x.job(1, 2), Due.NONE);
        Due.due("4 size stays", x.job(1, 0), 20);
        Due.due("4 price stays", x.job(1, 1), 2);
        Due.due("4 load", x.server(0, 1), 10);
        Due.due("4 other load", x.server(1, 1), 5);
        Due.due("4 sum", x.count(4), 15);
        Due.due("4 jobs", x.count(2), 3);
        Due.due("4 finished", x.count(3), 1);
        Due.due("4 greatest size", x.count(7), 10);
        Due.due("4 states", x.count(13), 5);
        Due.due("4 the last one", x.finish(0), 0);
        Due.due("4 jobs of it", x.server(0, 2), 0);
        Due.due("4 price is free", x.count(10), 500);
        x.undo();
        Due.due("4 undone", x.job(0, 2), 0);
        Due.due("4 undone", x.count(3), 1);
        Due.due("4 finish again", x.finish(0), 0);
        Due.due("4 a new number", x.add(1, 1, 0), 3);
    }

    private static void finishChecks() {
        EvenLoads x = Due.servers(1);
        Due.due("4 no jobs", x.finish(0), Due.INVALID);
        x.add(10, 1, 0);
        x.finish(0);
        Due.due("4 twice", x.finish(0), Due.ILLEGAL);
        Due.due("4 no such job", x.finish(1), Due.INVALID);
        Due.due("4 no such job", x.finish(-1), Due.INVALID);
        Due.due("4 no such job", x.finish(24), Due.INVALID);
        Due.due("4 no such job", x.finish(Integer.MIN_VALUE), Due.INVALID);
        Due.due("4 no such job", x.finish(Integer.MAX_VALUE), Due.INVALID);
        Due.due("4 no action", x.count(13), 3);
    }

    private static void setBudget() {
        EvenLoads x = Due.servers(2);
        x.add(10, 40, 0);
        Due.due("5 the first one", x.setBudget(100), 500);
        x.move(0, 1);
        Due.due("5 what was left", x.setBudget(0), 60);
        Due.due("5 count(10)", x.count(10), 0);
        Due.due("5 least", x.setBudget(10000), 0);
        Due.due("5 most", x.setBudget(10000), 10000);
        Due.due("5 is an action", x.count(13), 5);
        Due.due("5 too small", x.setBudget(-1), Due.INVALID);
        Due.due("5 too great", x.setBudget(10001), Due.INVALID);
        Due.due("5 too small", x.setBudget(Integer.MIN_VALUE), Due.INVALID);
        Due.due("5 nothing changed", x.count(10), 10000);
        Due.due("5 undo", x.undo(), 4);
        Due.due("5 undone", x.count(10), 10000);
        Due.due("5 undo", x.undo(), 3);
        Due.due("5 undone", x.count(10), 0);
        Due.due("5 undo", x.undo(), 2);
        Due.due("5 undone", x.count(10), 60);
    }

    private static void setFactor() {
        EvenLoads x = new EvenLoads();
        Due.due("6 without servers", x.setFactor(400), 0);
        Due.due("6 count(11)", x.count(11), 400);
        Due.due("6 is an action", x.count(13), 1);
        x.addServer();
        x.add(100, 0, 0);
        Due.due("6 least", x.setFactor(100), 100);
        Due.due("6 most", x.setFactor(400), 400);
        Due.due("6 too small", x.setFactor(99), Due.INVALID);
        Due.due("6 too great", x.setFactor(401), Due.INVALID);
        Due.due("6 too small", x.setFactor(-100), Due.INVALID);
        Due.due("6 too great", x.setFactor(Integer.MAX_VALUE), Due.INVALID);
        Due.due("6 nothing changed", x.count(11), 400);
        Due.due("6 no action", x.count(13), 5);
        x.undo();
        Due.due("6 undone", x.count(11), 100);
        Due.due("6 undone", x.count(8), 100);
    }

    private static void setFactorRounds() {
        EvenLoads x = Due.servers(3);
        x.add(3, 0, 0);
        x.add(3, 0, 0);
        x.add(4, 0, 1);
        // The sum 10 by 3 servers is rounded up to 4; 4 * 149 / 100 is 5.96.
        Due.due("6 rounded down", x.setFactor(149), 5);
        Due.due("6 exactly", x.setFactor(150), 6);
    }
}
