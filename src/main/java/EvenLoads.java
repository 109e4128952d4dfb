/**
 * Jobs on servers: loads, moves with a budget, a plan that evens the loads, servers that close and
 * open again, forecasts, orders that are run from a text, and undo. See README.md.
 *
 * <p>All rows are made in the constructor and used again, so that no later call makes an object.
 */
public final class EvenLoads {
    public static final int INVALID_ARGUMENT = -1;
    public static final int ILLEGAL_STATE = -2;
    public static final int CAPACITY_EXCEEDED = -3;
    public static final int NONE = -9;

    private static final int MOST_SERVERS = 6;
    private static final int MOST_JOBS = 24;
    private static final int MOST_SIZE = 1000;
    private static final int MOST_PRICE = 100;
    private static final int MOST_BUDGET = 10000;
    private static final int FIRST_BUDGET = 500;
    private static final int LEAST_FACTOR = 100;
    private static final int MOST_FACTOR = 400;
    private static final int FIRST_FACTOR = 120;
    private static final int MOST_STEPS = 30;
    private static final int MOST_SEARCHED_MOVES = 2;
    private static final int MOST_STATES = 5;
    private static final int MOST_SIGNS = 100;
    private static final int MOST_SIGN = 255;
    private static final int MOST_NUMBERS = 3;
    private static final int MOST_DIGITS = 4;
    private static final int FAILED = -1000;

    private final Cluster now;
    private final Cluster before;
    private final Cluster trial;
    private final History history;
    private final Step next;
    private final Program program;

    public EvenLoads() {
        now = new Cluster();
        before = new Cluster();
        trial = new Cluster();
        history = new History();
        next = new Step();
        program = new Program();
    }

    // ---- servers and jobs

    public int addServer() {
        before.copyFrom(now);
        return recorded(now.newServer());
    }

    public int add(int size, int price, int server) {
        before.copyFrom(now);
        return recorded(now.newJob(size, price, server));
    }

    public int finish(int job) {
        before.copyFrom(now);
        return recorded(now.endJob(job));
    }

    public int setBudget(int budget) {
        before.copyFrom(now);
        return recorded(now.changeBudget(budget));
    }

    public int setFactor(int factor) {
        before.copyFrom(now);
        return recorded(now.changeFactor(factor));
    }

    // ---- moves

    public int move(int job, int server) {
        before.copyFrom(now);
        return recorded(now.moveJob(job, server));
    }

    public int exchange(int job, int other) {
        before.copyFrom(now);
        return recorded(now.exchangeJobs(job, other));
    }

    public int ring(int first, int second, int third) {
        before.copyFrom(now);
        return recorded(now.moveRing(first, second, third));
    }

    public int even(int steps) {
        before.copyFrom(now);
        return recorded(next.walk(now, steps));
    }

    public int close(int server) {
        before.copyFrom(now);
        return recorded(now.closeServer(server));
    }

    public int open(int server) {
        before.copyFrom(now);
        return recorded(now.openServer(server));
    }

    public int undo() {
        if (!history.takeLatest(now)) {
            return ILLEGAL_STATE;
        }
        return history.depth;
    }

    // ---- programs

    public int append(int character) {
        return program.addSign(character);
    }

    public int clearText() {
        int length = program.length;
        program.length = 0;
        return length;
    }

    public int run() {
        before.copyFrom(now);
        int answer = runOrders();
        if (answer < 0) {
            now.copyFrom(before);
            return answer;
        }
        program.length = 0;
        return recorded(answer);
    }

    // ---- looking

    public int count(int what) {
        switch (what) {
            case 0:
                return now.servers;
            case 1:
                return now.openServers;
            case 2:
                return now.jobs;
            case 3:
                return now.finishedJobs();
            case 4:
                return now.sum;
            case 5:
                return now.greatestLoad();
            case 6:
                return at(now.loads, now.emptiestServer());
            case 7:
                return now.bound();
            case 8:
                return now.target();
            case 9:
                return now.isEven() ? 1 : 0;
            case 10:
                return now.budget;
            case 11:
                return now.factor;
            case 12:
                return now.moves;
            case 13:
                return history.depth;
            case 14:
                return program.length;
            default:
                return INVALID_ARGUMENT;
        }
    }

    public int server(int server, int what) {
        if (!now.hasServer(server)) {
            return INVALID_ARGUMENT;
        }
        switch (what) {
            case 0:
                return now.isOpen(server) ? 1 : 0;
            case 1:
                return at(now.loads, server);
            case 2:
                return Integer.bitCount(now.jobsOn(server));
            case 3:
                return now.sum > 0 ? at(now.loads, server) * 1000 / now.sum : 0;
            case 4:
                return now.jobsOn(server);
            default:
                return INVALID_ARGUMENT;
        }
    }

    public int job(int job, int what) {
        if (!now.hasJob(job)) {
            return INVALID_ARGUMENT;
        }
        switch (what) {
            case 0:
                return at(now.sizes, job);
            case 1:
                return at(now.prices, job);
            case 2:
                return at(now.places, job);
            case 3:
                return at(now.moved, job);
            default:
                return INVALID_ARGUMENT;
        }
    }

    public int leaving(int server, int index) {
        if (!now.hasServer(server) || index < 0) {
            return INVALID_ARGUMENT;
        }
        return now.leavingJob(server, index);
    }

    // ---- what could be, which changes nothing

    public int step(int what) {
        if (what < 0 || what > 3) {
            return INVALID_ARGUMENT;
        }
        if (!next.choose(now, now.target())) {
            return NONE;
        }
        switch (what) {
            case 0:
                return next.job;
            case 1:
                return next.goal;
            case 2:
                return next.other;
            default:
                return next.price;
        }
    }

    public int plan(int what) {
        if (what < 0 || what > 4) {
            return INVALID_ARGUMENT;
        }
        trial.copyFrom(now);
        int steps = next.walk(trial, MOST_STEPS);
        switch (what) {
            case 0:
                return steps;
            case 1:
                return trial.moves - now.moves;
            case 2:
                return now.budget - trial.budget;
            case 3:
                return trial.greatestLoad();
            default:
                return trial.isEven() ? 1 : 0;
        }
    }

    public int fewest(int what) {
        if (what < 0 || what > 1) {
            return INVALID_ARGUMENT;
        }
        trial.copyFrom(now);
        int target = now.target();
        for (int moves = 0; moves <= MOST_SEARCHED_MOVES; moves++) {
            int price = cheapest(trial, target, moves, 0);
            if (price != NONE) {
                return what == 0 ? moves : price;
            }
        }
        return NONE;
    }

    public int without(int server) {
        if (!now.hasServer(server)) {
            return INVALID_ARGUMENT;
        }
        if (!now.isOpen(server) || now.openServers <= 1) {
            return ILLEGAL_STATE;
        }
        trial.copyFrom(now);
        trial.closeAndEmpty(server);
        return trial.greatestLoad();
    }

    // ---- parts of the calls

    /** Keeps the state before an action in the history, unless its answer is an error code. */
    private int recorded(int answer) {
        if (answer >= 0) {
            history.keep(before);
        }
        return answer;
    }

    private int runOrders() {
        int orders = 0;
        int length = program.length;
        program.startReading();
        for (int place = 0; place < length; place++) {
            if (!program.read(place)) {
                return FAILED - place;
            }
            if (program.isOrderRead) {
                if (callOrder() < 0) {
                    return FAILED - program.letterPlace;
                }
                orders++;
            }
        }
        return program.isInOrder() ? FAILED - length : orders;
    }

    private int callOrder() {
        int first = at(program.numbers, 0);
        int second = at(program.numbers, 1);
        int third = at(program.numbers, 2);
        switch (program.letter) {
            case 'j':
                return now.newJob(first, second, third);
            case 'f':
                return now.endJob(first);
            case 'm':
                return now.moveJob(first, second);
            case 'x':
                return now.exchangeJobs(first, second);
            case 'r':
                return now.moveRing(first, second, third);
            case 'p':
                return next.walk(now, first);
            default:
                return INVALID_ARGUMENT;
        }
    }

    /**
     * The smallest price of exactly so many moves of different jobs, of the number first and above,
     * behind which no load is above the target; NONE if there are no such moves.
     */
    private static int cheapest(Cluster cluster, int target, int moves, int first) {
        // A move takes load from one server only, so each server above the target wants its own.
        if (cluster.serversAbove(target) > moves) {
            return NONE;
        }
        if (moves <= 0) {
            return 0;
        }
        int best = NONE;
        for (int job = first; job < cluster.jobs; job++) {
            int size = at(cluster.sizes, job);
            int from = at(cluster.places, job);
            if (from == NONE) {
                continue;
            }
            for (int to = 0; to < cluster.servers; to++) {
                if (to == from || !cluster.isOpen(to)) {
                    continue;
                }
                cluster.shiftLoad(size, from, to);
                int rest = cheapest(cluster, target, moves - 1, job + 1);
                cluster.shiftLoad(size, to, from);
                int price = rest + at(cluster.prices, job);
                if (rest != NONE && (best == NONE || price < best)) {
                    best = price;
                }
            }
        }
        return best;
    }

    // ---- rows, whose indices are looked at here

    private static int at(int[] row, int index) {
        return index >= 0 && index < row.length ? row[index] : 0;
    }

    private static void put(int[] row, int index, int value) {
        if (index >= 0 && index < row.length) {
            row[index] = value;
        }
    }

    private static void copyRow(int[] from, int[] to) {
        System.arraycopy(from, 0, to, 0, Math.min(from.length, to.length));
    }

    /** A state, which is everything but the text and the history, and what changes it. */
    private static final class Cluster {
        private final int[] sizes = new int[MOST_JOBS];
        private final int[] prices = new int[MOST_JOBS];
        /** The server of each job, NONE if it is finished. */
        private final int[] places = new int[MOST_JOBS];
        private final int[] moved = new int[MOST_JOBS];
        private final int[] loads = new int[MOST_SERVERS];
        /** 1 for each server that is open. */
        private final int[] opened = new int[MOST_SERVERS];
        private int servers = 0;
        private int openServers = 0;
        private int jobs = 0;
        private int sum = 0;
        private int budget = FIRST_BUDGET;
        private int factor = FIRST_FACTOR;
        private int moves = 0;

        void copyFrom(Cluster other) {
            copyRow(other.sizes, sizes);
            copyRow(other.prices, prices);
            copyRow(other.places, places);
            copyRow(other.moved, moved);
            copyRow(other.loads, loads);
            copyRow(other.opened, opened);
            servers = other.servers;
            openServers = other.openServers;
            jobs = other.jobs;
            sum = other.sum;
            budget = other.budget;
            factor = other.factor;
            moves = other.moves;
        }

        // ---- changes; a change that returns an error code changes nothing

        int newServer() {
            if (servers >= MOST_SERVERS) {
                return CAPACITY_EXCEEDED;
            }
            put(opened, servers, 1);
            openServers++;
            servers++;
            return servers - 1;
        }

        int newJob(int size, int price, int server) {
            boolean isSize = size >= 1 && size <= MOST_SIZE;
            boolean isPrice = price >= 0 && price <= MOST_PRICE;
            if (!isSize || !isPrice || !hasServer(server)) {
                return INVALID_ARGUMENT;
            }
            if (!isOpen(server)) {
                return ILLEGAL_STATE;
            }
            if (jobs >= MOST_JOBS) {
                return CAPACITY_EXCEEDED;
            }
            put(sizes, jobs, size);
            put(prices, jobs, price);
            put(places, jobs, server);
            put(moved, jobs, 0);
            put(loads, server, at(loads, server) + size);
            sum += size;
            jobs++;
            return jobs - 1;
        }

        int endJob(int job) {
            if (!hasJob(job)) {
                return INVALID_ARGUMENT;
            }
            if (isFinished(job)) {
                return ILLEGAL_STATE;
            }
            int server = at(places, job);
            put(loads, server, at(loads, server) - at(sizes, job));
            sum -= at(sizes, job);
            put(places, job, NONE);
            return at(loads, server);
        }

        int changeBudget(int wanted) {
            if (wanted < 0 || wanted > MOST_BUDGET) {
                return INVALID_ARGUMENT;
            }
            int left = budget;
            budget = wanted;
            return left;
        }

        int changeFactor(int wanted) {
            if (wanted < LEAST_FACTOR || wanted > MOST_FACTOR) {
                return INVALID_ARGUMENT;
            }
            factor = wanted;
            return target();
        }

        int moveJob(int job, int server) {
            if (!hasJob(job) || !hasServer(server)) {
                return INVALID_ARGUMENT;
            }
            if (isFinished(job) || at(places, job) == server || !isOpen(server)) {
                return ILLEGAL_STATE;
            }
            if (at(prices, job) > budget) {
                return ILLEGAL_STATE;
            }
            takeTo(job, server);
            return greatestLoad();
        }

        int exchangeJobs(int job, int other) {
            if (!hasJob(job) || !hasJob(other) || job == other) {
                return INVALID_ARGUMENT;
            }
            if (!areApart(job, other) || at(prices, job) + at(prices, other) > budget) {
                return ILLEGAL_STATE;
            }
            int from = at(places, job);
            takeTo(job, at(places, other));
            takeTo(other, from);
            return greatestLoad();
        }

        int moveRing(int first, int second, int third) {
            if (!hasJob(first) || !hasJob(second) || !hasJob(third)) {
                return INVALID_ARGUMENT;
            }
            if (first == second || second == third || third == first) {
                return INVALID_ARGUMENT;
            }
            if (!areApart(first, second) || !areApart(second, third) || !areApart(third, first)) {
                return ILLEGAL_STATE;
            }
            if (at(prices, first) + at(prices, second) + at(prices, third) > budget) {
                return ILLEGAL_STATE;
            }
            int from = at(places, first);
            takeTo(first, at(places, second));
            takeTo(second, at(places, third));
            takeTo(third, from);
            return greatestLoad();
        }

        int closeServer(int server) {
            if (!hasServer(server)) {
                return INVALID_ARGUMENT;
            }
            if (!isOpen(server) || openServers <= 1 || priceOfAll(server) > budget) {
                return ILLEGAL_STATE;
            }
            return closeAndEmpty(server);
        }

        int openServer(int server) {
            if (!hasServer(server)) {
                return INVALID_ARGUMENT;
            }
            if (isOpen(server)) {
                return ILLEGAL_STATE;
            }
            put(opened, server, 1);
            openServers++;
            return openServers;
        }

        // ---- parts of the changes, which ask no more whether they are allowed

        /** Closes the server before its jobs leave, so that none of them can come back to it. */
        int closeAndEmpty(int server) {
            put(opened, server, 0);
            openServers--;
            int left = Integer.bitCount(jobsOn(server));
            for (int i = 0; i < left; i++) {
                takeTo(leavingJob(server, 0), emptiestServer());
            }
            return left;
        }

        void takeTo(int job, int server) {
            shiftLoad(at(sizes, job), at(places, job), server);
            put(places, job, server);
            put(moved, job, at(moved, job) + 1);
            moves++;
            budget -= at(prices, job);
        }

        void shiftLoad(int size, int from, int to) {
            put(loads, from, at(loads, from) - size);
            put(loads, to, at(loads, to) + size);
        }

        // ---- looking

        boolean hasServer(int server) {
            return server >= 0 && server < servers;
        }

        boolean hasJob(int job) {
            return job >= 0 && job < jobs;
        }

        boolean isOpen(int server) {
            return at(opened, server) == 1;
        }

        boolean isFinished(int job) {
            return at(places, job) == NONE;
        }

        boolean areApart(int job, int other) {
            return !isFinished(job) && !isFinished(other) && at(places, job) != at(places, other);
        }

        int finishedJobs() {
            int finished = 0;
            for (int job = 0; job < jobs; job++) {
                if (isFinished(job)) {
                    finished++;
                }
            }
            return finished;
        }

        /** The jobs on a server, a bit for each. */
        int jobsOn(int server) {
            int set = 0;
            for (int job = 0; job < jobs; job++) {
                if (at(places, job) == server) {
                    set |= 1 << job;
                }
            }
            return set;
        }

        int priceOfAll(int server) {
            int price = 0;
            for (int job = 0; job < jobs; job++) {
                if (at(places, job) == server) {
                    price += at(prices, job);
                }
            }
            return price;
        }

        int leavingJob(int server, int index) {
            for (int job = 0; job < jobs; job++) {
                if (at(places, job) == server && jobsLeavingBefore(job) == index) {
                    return job;
                }
            }
            return NONE;
        }

        int jobsLeavingBefore(int job) {
            int earlier = 0;
            for (int other = 0; other < jobs; other++) {
                if (at(places, other) == at(places, job) && leavesBefore(other, job)) {
                    earlier++;
                }
            }
            return earlier;
        }

        boolean leavesBefore(int job, int other) {
            if (at(sizes, job) != at(sizes, other)) {
                return at(sizes, job) > at(sizes, other);
            }
            if (at(prices, job) != at(prices, other)) {
                return at(prices, job) < at(prices, other);
            }
            return job < other;
        }

        int greatestLoad() {
            return at(loads, fullestServer());
        }

        /** The open server with the greatest load, NONE if no server is open. */
        int fullestServer() {
            int full = NONE;
            for (int server = 0; server < servers; server++) {
                boolean isFuller = full == NONE || at(loads, server) > at(loads, full);
                if (at(opened, server) == 1 && isFuller) {
                    full = server;
                }
            }
            return full;
        }

        /** The open server with the smallest load, NONE if no server is open. */
        int emptiestServer() {
            int empty = NONE;
            for (int server = 0; server < servers; server++) {
                boolean isEmptier = empty == NONE || at(loads, server) < at(loads, empty);
                if (at(opened, server) == 1 && isEmptier) {
                    empty = server;
                }
            }
            return empty;
        }

        int bound() {
            int greatest = 0;
            for (int job = 0; job < jobs; job++) {
                if (at(places, job) != NONE) {
                    greatest = Math.max(greatest, at(sizes, job));
                }
            }
            int average = openServers > 0 ? (sum + openServers - 1) / openServers : 0;
            return Math.max(average, greatest);
        }

        int target() {
            return bound() * factor / 100;
        }

        boolean isEven() {
            return greatestLoad() <= target();
        }

        int serversAbove(int target) {
            int above = 0;
            for (int server = 0; server < servers; server++) {
                if (at(loads, server) > target) {
                    above++;
                }
            }
            return above;
        }
    }

    /** A step of the plan: the best candidate of those that were offered so far. */
    private static final class Step {
        /** The job of the full server, NONE if there is no candidate. */
        private int job = NONE;
        private int goal = NONE;
        /** The job that comes back, NONE for a move. */
        private int other = NONE;
        private int price = 0;
        /** The greater one of the two loads behind the step, which a better candidate is below. */
        private int greater = 0;

        /** Does the first steps of the plan and tells how many were done. */
        int walk(Cluster cluster, int steps) {
            if (steps < 1 || steps > MOST_STEPS) {
                return INVALID_ARGUMENT;
            }
            // No step of the plan changes the sum or the sizes, so the target stays.
            int target = cluster.target();
            for (int done = 0; done < steps; done++) {
                if (!choose(cluster, target)) {
                    return done;
                }
                int from = at(cluster.places, job);
                cluster.takeTo(job, goal);
                if (other != NONE) {
                    cluster.takeTo(other, from);
                }
            }
            return steps;
        }

        /** Chooses the first step of the plan and tells whether there is one. */
        boolean choose(Cluster cluster, int target) {
            int full = cluster.fullestServer();
            if (at(cluster.loads, full) <= target) {
                return false;
            }
            chooseMove(cluster, full);
            if (isPossible(cluster)) {
                return true;
            }
            chooseExchange(cluster, full);
            return isPossible(cluster);
        }

        private boolean isPossible(Cluster cluster) {
            return job != NONE && price <= cluster.budget;
        }

        private void chooseMove(Cluster cluster, int full) {
            int load = at(cluster.loads, full);
            startBelow(load);
            for (int mine = 0; mine < cluster.jobs; mine++) {
                if (at(cluster.places, mine) != full) {
                    continue;
                }
                int size = at(cluster.sizes, mine);
                for (int to = 0; to < cluster.servers; to++) {
                    if (to != full && at(cluster.opened, to) == 1) {
                        int behind = Math.max(load - size, at(cluster.loads, to) + size);
                        offer(mine, to, NONE, at(cluster.prices, mine), behind);
                    }
                }
            }
        }

        private void chooseExchange(Cluster cluster, int full) {
            int load = at(cluster.loads, full);
            startBelow(load);
            for (int mine = 0; mine < cluster.jobs; mine++) {
                if (at(cluster.places, mine) != full) {
                    continue;
                }
                for (int its = 0; its < cluster.jobs; its++) {
                    int to = at(cluster.places, its);
                    if (to != full && to != NONE) {
                        int gain = at(cluster.sizes, mine) - at(cluster.sizes, its);
                        int behind = Math.max(load - gain, at(cluster.loads, to) + gain);
                        int both = at(cluster.prices, mine) + at(cluster.prices, its);
                        offer(mine, to, its, both, behind);
                    }
                }
            }
        }

        private void startBelow(int load) {
            job = NONE;
            greater = load;
        }

        /** Candidates are offered by rising numbers, so of equal ones the first one stays. */
        private void offer(int mine, int to, int its, int cost, int behind) {
            boolean isCheaper = job != NONE && behind == greater && cost < price;
            if (behind < greater || isCheaper) {
                job = mine;
                goal = to;
                other = its;
                price = cost;
                greater = behind;
            }
        }
    }

    /** The latest states, in a circle, so that the oldest one is written over. */
    private static final class History {
        private final Cluster[] states = new Cluster[MOST_STATES];
        private int depth = 0;
        /** Where the next state is kept. */
        private int free = 0;

        History() {
            for (int i = 0; i < states.length; i++) {
                states[i] = new Cluster();
            }
        }

        void keep(Cluster state) {
            Cluster place = stateAt(free);
            if (place != null) {
                place.copyFrom(state);
                free = (free + 1) % MOST_STATES;
                depth = Math.min(depth + 1, MOST_STATES);
            }
        }

        /** Takes the latest state out of the history; false if there is none. */
        boolean takeLatest(Cluster into) {
            int latest = (free + MOST_STATES - 1) % MOST_STATES;
            Cluster state = stateAt(latest);
            if (depth <= 0 || state == null) {
                return false;
            }
            into.copyFrom(state);
            free = latest;
            depth--;
            return true;
        }

        private Cluster stateAt(int index) {
            return index >= 0 && index < states.length ? states[index] : null;
        }
    }

    /** The text, and the order in it that is being read, sign by sign. */
    private static final class Program {
        private final int[] signs = new int[MOST_SIGNS];
        private int length = 0;

        /** The letter of the order, 0 between two orders. */
        private int letter = 0;
        private int letterPlace = 0;
        /** True behind the ";" of an order, which is to be called then. */
        private boolean isOrderRead = false;
        private final int[] numbers = new int[MOST_NUMBERS];
        /** How many numbers have begun, and the digits of the one that goes on, 0 if none does. */
        private int begun = 0;
        private int digits = 0;

        int addSign(int sign) {
            if (sign < 1 || sign > MOST_SIGN) {
                return INVALID_ARGUMENT;
            }
            if (length >= MOST_SIGNS) {
                return CAPACITY_EXCEEDED;
            }
            put(signs, length, sign);
            length++;
            return length;
        }

        void startReading() {
            letter = 0;
            isOrderRead = false;
        }

        boolean isInOrder() {
            return letter != 0 && !isOrderRead;
        }

        /** Reads the sign at a place and tells whether it is allowed there. */
        boolean read(int place) {
            int sign = at(signs, place);
            if (isOrderRead) {
                startReading();
            }
            if (sign == ' ') {
                digits = 0;
                return true;
            }
            if (letter == 0) {
                return readLetter(sign, place);
            }
            if (sign == ';') {
                isOrderRead = begun == numbersOf(letter);
                return isOrderRead;
            }
            return sign >= '0' && sign <= '9' && readDigit(sign - '0');
        }

        private boolean readLetter(int sign, int place) {
            if (numbersOf(sign) == 0) {
                return false;
            }
            letter = sign;
            letterPlace = place;
            begun = 0;
            digits = 0;
            return true;
        }

        private boolean readDigit(int digit) {
            if (digits == 0) {
                return beginNumber(digit);
            }
            int value = at(numbers, begun - 1);
            // Behind a first digit 0 no other one is allowed, and only then the value is still 0.
            if (digits >= MOST_DIGITS || value == 0) {
                return false;
            }
            put(numbers, begun - 1, value * 10 + digit);
            digits++;
            return true;
        }

        private boolean beginNumber(int digit) {
            if (begun >= numbersOf(letter)) {
                return false;
            }
            put(numbers, begun, digit);
            begun++;
            digits = 1;
            return true;
        }

        /** How many numbers stand behind a letter, 0 if no order has it. */
        private static int numbersOf(int sign) {
            switch (sign) {
                case 'f':
                case 'p':
                    return 1;
                case 'm':
                case 'x':
                    return 2;
                case 'j':
                case 'r':
                    return 3;
                default:
                    return 0;
            }
        }
    }
}
