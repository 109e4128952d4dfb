/** Promises 7 to 13: move, exchange, ring, even, close, open, undo. */
public final class MovesTest {
    private static final int[] NO_JOBS = {-1, 3, 24, Integer.MIN_VALUE, Integer.MAX_VALUE};

    public static void main(String[] args) {
        move();
        moveChecks();
        exchange();
        exchangeChecks();
        ring();
        ringChecks();
        even();
        evenWithoutSteps();
        evenToThirty();
        close();
        closeByOrder();
        closeChecks();
        open();
        undo();
        undoOfEachAction();
        undoKeepsText();
        Due.end();
    }

    /** Servers 0 to 3 with the jobs 0 (10, price 1), 1 (20, 2) and 2 (30, 4) on servers 0 to 2. */
    private static EvenLoads three() {
        EvenLoads x = Due.servers(4);
        x.add(10, 1, 0);
        x.add(20, 2, 1);
        x.add(30, 4, 2);
        return x;
    }

    private static void move() {
        EvenLoads x = three();
        Due.due("7 move(0, 2)", x.move(0, 2), 40);
        Due.due("7 server", x.job(0, 2), 2);
        Due.due("7 moved", x.job(0, 3), 1);
        Due.due("7 moves", x.count(12), 1);
        Due.due("7 budget", x.count(10), 499);
        Due.due("7 load", x.server(0, 1), 0);
        Due.due("7 load", x.server(2, 1), 40);
        Due.due("7 move(2, 3)", x.move(2, 3), 30);
        Due.due("7 budget", x.count(10), 495);
        Due.due("7 move(2, 0)", x.move(2, 0), 30);
        Due.due("7 moved", x.job(2, 3), 2);
        Due.due("7 moves", x.count(12), 3);
        x.undo();
        Due.due("7 is an action", x.job(2, 2), 3);
        Due.due("7 undone", x.job(2, 3), 1);
        Due.due("7 undone", x.count(12), 2);
        Due.due("7 undone", x.count(10), 495);
    }

    private static void moveChecks() {
        EvenLoads x = three();
        for (int job : NO_JOBS) {
            Due.due("7 no such job", x.move(job, 0), Due.INVALID);
        }
        Due.due("7 no such server", x.move(0, -1), Due.INVALID);
        Due.due("7 no such server", x.move(0, 4), Due.INVALID);
        Due.due("7 no such server", x.move(0, Integer.MAX_VALUE), Due.INVALID);
        Due.due("7 is there", x.move(0, 0), Due.ILLEGAL);
        x.close(3);
        Due.due("7 closed", x.move(0, 3), Due.ILLEGAL);
        x.setBudget(1);
        Due.due("7 too dear", x.move(1, 0), Due.ILLEGAL);
        String before = Due.picture(x);
        Due.due("7 too dear", x.move(2, 0), Due.ILLEGAL);
        Due.same("7 nothing changed", Due.picture(x), before);
        Due.due("7 just enough", x.move(0, 1), 30);
        Due.due("7 budget", x.count(10), 0);
        x.finish(2);
        Due.due("7 finished", x.move(2, 0), Due.ILLEGAL);
        Due.due("7 finished, no such server", x.move(2, 4), Due.INVALID);
        x.setBudget(10);
        Due.due("7 finished", x.move(2, 2), Due.ILLEGAL);
    }

    private static void exchange() {
        EvenLoads x = three();
        x.add(5, 0, 0);
        Due.due("8 exchange(0, 2)", x.exchange(0, 2), 35);
        Due.due("8 server", x.job(0, 2), 2);
        Due.due("8 server", x.job(2, 2), 0);
        Due.due("8 load", x.server(0, 1), 35);
        Due.due("8 load", x.server(2, 1), 10);
        Due.due("8 two moves", x.count(12), 2);
        Due.due("8 moved", x.job(0, 3), 1);
        Due.due("8 moved", x.job(2, 3), 1);
        Due.due("8 not moved", x.job(1, 3), 0);
        Due.due("8 both prices", x.count(10), 495);
        Due.due("8 back", x.exchange(0, 2), 30);
        Due.due("8 states", x.count(13), 5);
        x.undo();
        Due.due("8 is an action", x.job(0, 2), 2);
    }

    private static void exchangeChecks() {
        EvenLoads x = three();
        x.add(5, 0, 0);
        Due.due("8 the same", x.exchange(1, 1), Due.INVALID);
        for (int job : new int[] {-1, 4, 24, Integer.MIN_VALUE, Integer.MAX_VALUE}) {
            Due.due("8 no such job", x.exchange(job, 0), Due.INVALID);
            Due.due("8 no such job", x.exchange(0, job), Due.INVALID);
            Due.due("8 no such jobs", x.exchange(job, job), Due.INVALID);
        }
        Due.due("8 one server", x.exchange(0, 3), Due.ILLEGAL);
        x.setBudget(2);
        String before = Due.picture(x);
        Due.due("8 too dear", x.exchange(0, 1), Due.ILLEGAL);
        Due.same("8 nothing changed", Due.picture(x), before);
        x.setBudget(3);
        Due.due("8 just enough", x.exchange(0, 1), 30);
        Due.due("8 budget", x.count(10), 0);
        x.setBudget(100);
        x.finish(0);
        Due.due("8 finished", x.exchange(0, 1), Due.ILLEGAL);
        Due.due("8 finished", x.exchange(1, 0), Due.ILLEGAL);
        Due.due("8 finished and the same", x.exchange(0, 0), Due.INVALID);
        x.finish(1);
        Due.due("8 both finished", x.exchange(0, 1), Due.ILLEGAL);
    }

    private static void ring() {
        EvenLoads x = three();
        Due.due("9 ring(0, 1, 2)", x.ring(0, 1, 2), 30);
        Due.due("9 the first one", x.job(0, 2), 1);
        Due.due("9 the second one", x.job(1, 2), 2);
        Due.due("9 the third one", x.job(2, 2), 0);
        Due.due("9 load", x.server(0, 1), 30);
        Due.due("9 load", x.server(1, 1), 10);
        Due.due("9 load", x.server(2, 1), 20);
        Due.due("9 three moves", x.count(12), 3);
        Due.due("9 moved", x.job(0, 3) + x.job(1, 3) + x.job(2, 3), 3);
        Due.due("9 all prices", x.count(10), 493);
        x.undo();
        Due.due("9 is an action", x.job(0, 2), 0);
        Due.due("9 ring(2, 1, 0)", x.ring(2, 1, 0), 30);
        Due.due("9 the first one", x.job(2, 2), 1);
        Due.due("9 the second one", x.job(1, 2), 0);
        Due.due("9 the third one", x.job(0, 2), 2);
        x.add(50, 0, 3);
        Due.due("9 the greatest of all", x.ring(0, 1, 2), 50);
    }

    private static void ringChecks() {
        EvenLoads x = three();
        Due.due("9 two the same", x.ring(0, 0, 1), Due.INVALID);
        Due.due("9 two the same", x.ring(0, 1, 1), Due.INVALID);
        Due.due("9 two the same", x.ring(0, 1, 0), Due.INVALID);
        for (int job : NO_JOBS) {
            Due.due("9 no such job", x.ring(job, 0, 1), Due.INVALID);
            Due.due("9 no such job", x.ring(0, job, 1), Due.INVALID);
            Due.due("9 no such job", x.ring(0, 1, job), Due.INVALID);
        }
        x.add(1, 0, 0);
        Due.due("9 one server", x.ring(0, 3, 1), Due.ILLEGAL);
        Due.due("9 one server", x.ring(0, 1, 3), Due.ILLEGAL);
        Due.due("9 one server", x.ring(1, 0, 3), Due.ILLEGAL);
        x.setBudget(6);
        String before = Due.picture(x);
        Due.due("9 too dear", x.ring(0, 1, 2), Due.ILLEGAL);
        Due.same("9 nothing changed", Due.picture(x), before);
        x.setBudget(7);
        Due.due("9 just enough", x.ring(0, 1, 2), 31);
        Due.due("9 budget", x.count(10), 0);
        x.setBudget(100);
        x.finish(1);
        Due.due("9 finished", x.ring(1, 0, 2), Due.ILLEGAL);
        Due.due("9 finished", x.ring(0, 1, 2), Due.ILLEGAL);
        Due.due("9 finished", x.ring(0, 2, 1), Due.ILLEGAL);
        Due.due("9 finished and the same", x.ring(1, 1, 0), Due.INVALID);
    }

    private static void even() {
        EvenLoads x = Due.servers(2);
        for (int size : new int[] {8, 4, 2, 1}) {
            x.add(size, size, 0);
        }
        x.setFactor(100);
        // 15 is above 8. The job 0 goes first: 7 and 8, and that is even.
        Due.due("10 even(30)", x.even(30), 1);
        Due.due("10 server", x.job(0, 2), 1);
        Due.due("10 budget", x.count(10), 492);
        Due.due("10 moves", x.count(12), 1);
        Due.due("10 even already", x.even(30), 0);
        x.undo();
        Due.due("10 an action without steps", x.job(0, 2), 1);
        x.undo();
        Due.due("10 is one action", x.job(0, 2), 0);
        for (int steps : new int[] {0, 31, -1, Integer.MIN_VALUE, Integer.MAX_VALUE}) {
            Due.due("10 steps", x.even(steps), Due.INVALID);
        }
        Due.due("10 no action", x.count(13), 3);
        EvenLoads y = Due.servers(3);
        for (int i = 0; i < 6; i++) {
            y.add(10, 1, 0);
        }
        Due.due("10 the first steps", y.even(1), 1);
        Due.due("10 load", y.server(1, 1), 10);
        Due.due("10 the next ones", y.even(2), 2);
        // The server 1 is taken as long as the full one stays the greater one: 30, 30 and 0.
        Due.due("10 load", y.server(0, 1), 30);
        Due.due("10 load", y.server(1, 1), 30);
        Due.due("10 the last ones", y.even(3), 2);
        Due.due("10 even", y.count(5), 20);
    }

    private static void evenWithoutSteps() {
        EvenLoads x = new EvenLoads();
        Due.due("10 without servers", x.even(1), 0);
        Due.due("10 is an action", x.count(13), 1);
        EvenLoads y = Due.servers(2);
        y.add(10, 5, 0);
        y.add(10, 5, 0);
        y.setBudget(4);
        Due.due("10 too dear", y.even(1), 0);
        y.setBudget(5);
        Due.due("10 just enough", y.even(1), 1);
    }

    private static void evenToThirty() {
        // 24 jobs of one size on 1 of 6 servers: 12 steps to 12 12, 8 more to 8 8 8, 6 more to
        // 6 6 6 6, and 4 more to 5 5 5 5 4 0 jobs; there are 4 each behind 4 steps of the next plan.
        EvenLoads x = Due.servers(6);
        for (int i = 0; i < 24; i++) {
            x.add(7, 0, 0);
        }
        x.setFactor(100);
        Due.due("22 plan(0)", x.plan(0), 30);
        Due.due("22 plan(3)", x.plan(3), 35);
        Due.due("22 plan(4)", x.plan(4), 0);
        Due.due("10 even(30)", x.even(30), 30);
        Due.due("10 not even", x.count(9), 0);
        Due.due("10 greatest", x.count(5), 35);
        Due.due("10 load", x.server(4, 1), 28);
        Due.due("10 load", x.server(5, 1), 0);
        Due.due("10 even(30)", x.even(30), 4);
        Due.due("10 even", x.count(9), 1);
        Due.due("10 greatest", x.count(5), 28);
    }

    private static void close() {
        EvenLoads x = three();
        x.add(9, 8, 2);
        Due.due("11 close(2)", x.close(2), 2);
        Due.due("11 is closed", x.server(2, 0), 0);
        Due.due("11 has no jobs", x.server(2, 2), 0);
        Due.due("11 has no load", x.server(2, 1), 0);
        // 30 goes to the server 3 with 0, and 9 to the server 0 with 10.
        Due.due("11 server", x.job(2, 2), 3);
        Due.due("11 server", x.job(3, 2), 0);
        Due.due("11 prices", x.count(10), 488);
        Due.due("11 moves", x.count(12), 2);
        Due.due("11 moved", x.job(2, 3), 1);
        Due.due("11 open servers", x.count(1), 3);
        Due.due("11 servers", x.count(0), 4);
        x.undo();
        Due.due("11 is one action", x.server(2, 0), 1);
        Due.due("11 undone", x.server(2, 1), 39);
        Due.due("11 undone", x.count(1), 4);
        EvenLoads y = Due.servers(2);
        Due.due("11 without jobs", y.close(0), 0);
        Due.due("11 is an action", y.count(13), 3);
    }

    private static void closeByOrder() {
        // Of one size the cheaper one leaves first, then that of the smaller number.
        EvenLoads x = Due.servers(4);
        x.add(5, 3, 0);
        x.add(5, 2, 0);
        x.add(6, 9, 0);
        x.add(5, 2, 0);
        x.add(1, 0, 3);
        Due.due("11 close(0)", x.close(0), 4);
        // 6 to 1 (0), 5 of the job 1 to 2 (0), of the job 3 to 3 (1), of the job 0 to 2 (5).
        Due.due("11 the greatest", x.job(2, 2), 1);
        Due.due("11 the cheaper one", x.job(1, 2), 2);
        Due.due("11 the next number", x.job(3, 2), 3);
        Due.due("11 the dearer one", x.job(0, 2), 2);
        x.close(1);
        Due.due("11 not to a closed one", x.job(2, 2), 3);
    }

    private static void closeChecks() {
        EvenLoads x = Due.servers(2);
        for (int server : new int[] {-1, 2, 6, Integer.MIN_VALUE, Integer.MAX_VALUE}) {
            Due.due("11 no such server", x.close(server), Due.INVALID);
        }
        x.add(10, 3, 0);
        x.add(10, 4, 0);
        x.setBudget(6);
        String before = Due.picture(x);
        Due.due("11 too dear together", x.close(0), Due.ILLEGAL);
        Due.same("11 nothing changed", Due.picture(x), before);
        x.setBudget(7);
        Due.due("11 just enough", x.close(0), 2);
        Due.due("11 closed", x.close(0), Due.ILLEGAL);
        x.setBudget(1000);
        Due.due("11 the only open one", x.close(1), Due.ILLEGAL);
        Due.due("11 open", x.server(1, 0), 1);
    }

    private static void open() {
        EvenLoads x = Due.servers(3);
        x.add(10, 0, 1);
        Due.due("12 open already", x.open(1), Due.ILLEGAL);
        for (int server : new int[] {-1, 3, 6, Integer.MIN_VALUE, Integer.MAX_VALUE}) {
            Due.due("12 no such server", x.open(server), Due.INVALID);
        }
        x.close(1);
        x.close(2);
        Due.due("12 open(1)", x.open(1), 2);
        Due.due("12 is open", x.server(1, 0), 1);
        Due.due("12 the other one", x.server(2, 0), 0);
        Due.due("12 has no jobs", x.server(1, 4), 0);
        Due.due("12 twice", x.open(1), Due.ILLEGAL);
        Due.due("12 jobs can come", x.move(0, 1), 10);
        Due.due("12 jobs can come", x.add(3, 3, 1), 1);
        Due.due("12 open(2)", x.open(2), 3);
        x.undo();
        Due.due("12 is an action", x.server(2, 0), 0);
        Due.due("12 undone", x.count(1), 2);
    }

    private static void undo() {
        EvenLoads x = new EvenLoads();
        Due.due("13 empty", x.undo(), Due.ILLEGAL);
        String[] pictures = new String[8];
        pictures[0] = Due.picture(x);
        x.addServer();
        pictures[1] = Due.picture(x);
        x.addServer();
        pictures[2] = Due.picture(x);
        x.add(10, 3, 0);
        pictures[3] = Due.picture(x);
        x.setFactor(300);
        pictures[4] = Due.picture(x);
        x.move(0, 1);
        pictures[5] = Due.picture(x);
        x.close(1);
        pictures[6] = Due.picture(x);
        x.finish(0);
        Due.due("13 five states", x.count(13), 5);
        for (int left = 4; left >= 0; left--) {
            Due.due("13 undo()", x.undo(), left);
            Due.same("13 the state before", Due.picture(x), pictures[left + 2]);
            Due.due("13 count(13)", x.count(13), left);
        }
        Due.due("13 empty", x.undo(), Due.ILLEGAL);
        Due.same("13 nothing changed", Due.picture(x), pictures[2]);
        x.setBudget(7);
        Due.due("13 one again", x.undo(), 0);
        Due.same("13 the state before", Due.picture(x), pictures[2]);
    }

    /** Behind a change, so that no older state can pass for the one before the action. */
    private static void undoOfEachAction() {
        for (int action = 0; action < 12; action++) {
            EvenLoads x = three();
            x.add(40, 3, 0);
            x.add(50, 3, 0);
            x.close(3);
            x.setBudget(300 + action);
            String before = Due.picture(x);
            Due.due("13 the action " + action, act(x, action) >= 0);
            Due.due("13 changes something", !Due.picture(x).equals(before));
            Due.due("13 undo()", x.undo(), 4);
            Due.same("13 the state before the action " + action, Due.picture(x), before);
        }
    }

    private static int act(EvenLoads x, int action) {
        return switch (action) {
            case 0 -> x.addServer();
            case 1 -> x.add(1, 1, 1);
            case 2 -> x.finish(1);
            case 3 -> x.setBudget(9);
            case 4 -> x.setFactor(200);
            case 5 -> x.move(0, 1);
            case 6 -> x.exchange(0, 1);
            case 7 -> x.ring(0, 1, 2);
            case 8 -> x.even(2);
            case 9 -> x.close(2);
            case 10 -> x.open(3);
            default -> Due.runText(x, "f0;m1 2;");
        };
    }

    private static void undoKeepsText() {
        EvenLoads x = Due.servers(1);
        Due.type(x, "j1 1 0");
        x.undo();
        Due.due("13 the text stays", x.count(14), 6);
        x.addServer();
        x.append(';');
        Due.due("13 and runs", x.run(), 1);
        Due.due("13 the text is empty", x.count(14), 0);
        x.undo();
        Due.due("13 the text does not come back", x.count(14), 0);
        Due.due("13 failed calls are no states", x.count(13), 1);
        x.finish(5);
        x.run();
        x.clearText();
        x.append('p');
        Due.due("13 a run without orders is one", x.count(13), 2);
        x.run();
        Due.due("13 a failed run is none", x.count(13), 2);
    }
}
