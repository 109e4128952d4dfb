import java.util.ArrayDeque;
import java.util.ArrayList;
import java.util.Comparator;
import java.util.Deque;
import java.util.List;
import java.util.stream.IntStream;

/**
 * A second program by the same document, written with the Java library and without any care for its
 * cost, so that random runs can be compared with it. It shares no code with EvenLoads.
 */
final class Model {
    private static final int INVALID = -1;
    private static final int ILLEGAL = -2;
    private static final int FULL = -3;
    private static final int NONE = -9;

    private record Job(int number, int size, int price, Integer server, int moved) {
        Job to(int other) {
            return new Job(number, size, price, other, moved + 1);
        }

        Job finished() {
            return new Job(number, size, price, null, moved);
        }

        boolean isOn(int other) {
            return server != null && server == other;
        }
    }

    private record State(List<Boolean> open, List<Job> jobs, int budget, int factor, int moves) {
        State copy() {
            return new State(new ArrayList<>(open), new ArrayList<>(jobs), budget, factor, moves);
        }

        State jobTo(int number, int server) {
            State then = copy();
            Job job = jobs.get(number);
            then.jobs.set(number, job.to(server));
            return new State(then.open, then.jobs, budget - job.price, factor, moves + 1);
        }

        int load(int server) {
            return jobs.stream().filter(job -> job.isOn(server)).mapToInt(Job::size).sum();
        }

        IntStream servers() {
            return IntStream.range(0, open.size());
        }

        IntStream openServers() {
            return servers().filter(open::get);
        }

        int greatest() {
            return servers().map(this::load).max().orElse(0);
        }

        int sum() {
            return servers().map(this::load).sum();
        }

        int bound() {
            long servers = openServers().count();
            long average = servers == 0 ? 0 : (long) Math.ceil((double) sum() / servers);
            int size = jobs.stream().filter(job -> job.server != null).mapToInt(Job::size).max().orElse(0);
            return (int) Math.max(average, size);
        }

        int target() {
            return (int) Math.floor(bound() * (double) factor / 100);
        }

        boolean even() {
            return greatest() <= target();
        }

        boolean hasServer(int server) {
            return server >= 0 && server < open.size();
        }

        boolean hasJob(int job) {
            return job >= 0 && job < jobs.size();
        }

        List<Job> leaving(int server) {
            return jobs.stream().filter(job -> job.isOn(server)).sorted(
                    Comparator.comparing((Job job) -> -job.size).thenComparing(Job::price)
                            .thenComparing(Job::number)).toList();
        }

        State without(int server) {
            State then = copy();
            then.open.set(server, false);
            for (Job job : leaving(server)) {
                State at = then;
                int to = then.openServers().boxed()
                        .min(Comparator.comparing(at::load).thenComparing(x -> x)).orElseThrow();
                then = then.jobTo(job.number, to);
            }
            return then;
        }
    }

    private record Candidate(int job, int server, int other, int price, int greater) {
    }

    private State now = new State(new ArrayList<>(), new ArrayList<>(), 500, 120, 0);
    private final Deque<State> history = new ArrayDeque<>();
    private String text = "";
    private boolean inProgram = false;

    private int act(State then, int answer) {
        if (!inProgram) {
            history.addLast(now);
            if (history.size() > 5) {
                history.removeFirst();
            }
        }
        now = then;
        return answer;
    }

    int addServer() {
        if (now.open.size() == 6) {
            return FULL;
        }
        State then = now.copy();
        then.open.add(true);
        return act(then, now.open.size());
    }

    int add(int size, int price, int server) {
        if (size < 1 || size > 1000 || price < 0 || price > 100 || !now.hasServer(server)) {
            return INVALID;
        }
        if (!now.open.get(server)) {
            return ILLEGAL;
        }
        if (now.jobs.size() == 24) {
            return FULL;
        }
        State then = now.copy();
        then.jobs.add(new Job(now.jobs.size(), size, price, server, 0));
        return act(then, now.jobs.size());
    }

    int finish(int job) {
        if (!now.hasJob(job)) {
            return INVALID;
        }
        Integer server = now.jobs.get(job).server;
        if (server == null) {
            return ILLEGAL;
        }
        State then = now.copy();
        then.jobs.set(job, now.jobs.get(job).finished());
        return act(then, then.load(server));
    }

    int setBudget(int budget) {
        if (budget < 0 || budget > 10000) {
            return INVALID;
        }
        return act(new State(now.open, now.jobs, budget, now.factor, now.moves), now.budget);
    }

    int setFactor(int factor) {
        if (factor < 100 || factor > 400) {
            return INVALID;
        }
        State then = new State(now.open, now.jobs, now.budget, factor, now.moves);
        return act(then, then.target());
    }

    int move(int job, int server) {
        if (!now.hasJob(job) || !now.hasServer(server)) {
            return INVALID;
        }
        Job it = now.jobs.get(job);
        if (it.server == null || it.server == server || !now.open.get(server) || it.price > now.budget) {
            return ILLEGAL;
        }
        State then = now.jobTo(job, server);
        return act(then, then.greatest());
    }

    int exchange(int job, int other) {
        return rotate(job, other);
    }

    int ring(int first, int second, int third) {
        return rotate(first, second, third);
    }

    private int rotate(int... numbers) {
        if (IntStream.of(numbers).distinct().count() < numbers.length
                || !IntStream.of(numbers).allMatch(now::hasJob)) {
            return INVALID;
        }
        List<Job> jobs = IntStream.of(numbers).mapToObj(now.jobs::get).toList();
        if (jobs.stream().anyMatch(job -> job.server == null)
                || jobs.stream().map(Job::server).distinct().count() < numbers.length
                || jobs.stream().mapToInt(Job::price).sum() > now.budget) {
            return ILLEGAL;
        }
        State then = now;
        for (int i = 0; i < numbers.length; i++) {
            then = then.jobTo(numbers[i], jobs.get((i + 1) % numbers.length).server);
        }
        return act(then, then.greatest());
    }

    /** The step of the plan, null if there is none. */
    private static Candidate chosen(State state) {
        if (state.even()) {
            return null;
        }
        int full = state.openServers().boxed()
                .min(Comparator.comparing((Integer x) -> -state.load(x)).thenComparing(x -> x)).orElseThrow();
        List<Candidate> moves = new ArrayList<>();
        List<Candidate> exchanges = new ArrayList<>();
        for (Job job : state.leaving(full)) {
            state.openServers().filter(to -> to != full).forEach(to -> {
                State then = state.jobTo(job.number, to);
                int greater = Math.max(then.load(full), then.load(to));
                moves.add(new Candidate(job.number, to, NONE, job.price, greater));
            });
            for (Job other : state.jobs) {
                if (other.server != null && other.server != full) {
                    State then = state.jobTo(job.number, other.server).jobTo(other.number, full);
                    int greater = Math.max(then.load(full), then.load(other.server));
                    int price = job.price + other.price;
                    exchanges.add(new Candidate(job.number, other.server, other.number, price, greater));
                }
            }
        }
        Candidate move = best(state, full, moves);
        return move != null ? move : best(state, full, exchanges);
    }

    private static Candidate best(State state, int full, List<Candidate> candidates) {
        Comparator<Candidate> order = Comparator.comparing(Candidate::greater)
                .thenComparing(Candidate::price).thenComparing(Candidate::job)
                .thenComparing(Candidate::other).thenComparing(Candidate::server);
        Candidate best = candidates.stream().min(order).orElse(null);
        boolean isOne = best != null && best.greater < state.load(full) && best.price <= state.budget;
        return isOne ? best : null;
    }

    /** The states of the plan, the present one first, at most so many steps of it. */
    private static List<State> plan(State from, int most) {
        List<State> states = new ArrayList<>(List.of(from));
        for (int i = 0; i < most; i++) {
            State state = states.get(i);
            Candidate step = chosen(state);
            if (step == null) {
                break;
            }
            int full = state.jobs.get(step.job).server;
            State then = state.jobTo(step.job, step.server);
            states.add(step.other == NONE ? then : then.jobTo(step.other, full));
        }
        return states;
    }

    int even(int steps) {
        if (steps < 1 || steps > 30) {
            return INVALID;
        }
        List<State> states = plan(now, steps);
        return act(states.get(states.size() - 1), states.size() - 1);
    }

    int close(int server) {
        if (!now.hasServer(server)) {
            return INVALID;
        }
        if (!now.open.get(server) || now.openServers().count() == 1
                || now.leaving(server).stream().mapToInt(Job::price).sum() > now.budget) {
            return ILLEGAL;
        }
        return act(now.without(server), now.leaving(server).size());
    }

    int open(int server) {
        if (!now.hasServer(server)) {
            return INVALID;
        }
        if (now.open.get(server)) {
            return ILLEGAL;
        }
        State then = now.copy();
        then.open.set(server, true);
        return act(then, (int) then.openServers().count());
    }

    int undo() {
        if (history.isEmpty()) {
            return ILLEGAL;
        }
        now = history.removeLast();
        return history.size();
    }

    int append(int character) {
        if (character < 1 || character > 255) {
            return INVALID;
        }
        if (text.length() == 100) {
            return FULL;
        }
        text += (char) character;
        return text.length();
    }

    int clearText() {
        int length = text.length();
        text = "";
        return length;
    }

    // ---- the program, read by descent: each part begins at place and leaves it behind itself

    private int place;

    private static final class Failure extends Exception {
        private static final long serialVersionUID = 1;
        private final int place;

        Failure(int place) {
            this.place = place;
        }
    }

    int run() {
        State start = now;
        inProgram = true;
        place = 0;
        int orders = 0;
        try {
            for (skip(); place < text.length(); skip()) {
                readOrder();
                orders++;
            }
        } catch (Failure failure) {
            now = start;
            return -1000 - failure.place;
        } finally {
            inProgram = false;
        }
        State then = now;
        now = start;
        text = "";
        return act(then, orders);
    }

    private void skip() {
        while (place < text.length() && text.charAt(place) == ' ') {
            place++;
        }
    }

    private boolean isDigit() {
        return place < text.length() && "0123456789".indexOf(text.charAt(place)) >= 0;
    }

    private void readOrder() throws Failure {
        int start = place;
        char letter = text.charAt(place);
        int wanted = "fp".indexOf(letter) >= 0 ? 1 : "mx".indexOf(letter) >= 0 ? 2
                : "jr".indexOf(letter) >= 0 ? 3 : 0;
        if (wanted == 0) {
            throw new Failure(place);
        }
        place++;
        int[] numbers = new int[wanted];
        for (int i = 0; i < wanted; i++) {
            skip();
            numbers[i] = readNumber();
        }
        skip();
        if (place >= text.length() || text.charAt(place) != ';') {
            throw new Failure(place);
        }
        place++;
        if (call(letter, numbers) < 0) {
            throw new Failure(start);
        }
    }

    private int readNumber() throws Failure {
        if (!isDigit()) {
            throw new Failure(place);
        }
        int start = place;
        while (isDigit()) {
            if (place - start == 4 || place - start == 1 && text.charAt(start) == '0') {
                throw new Failure(place);
            }
            place++;
        }
        return Integer.parseInt(text.substring(start, place));
    }

    private int call(char letter, int[] n) {
        return switch (letter) {
            case 'j' -> add(n[0], n[1], n[2]);
            case 'f' -> finish(n[0]);
            case 'm' -> move(n[0], n[1]);
            case 'x' -> exchange(n[0], n[1]);
            case 'r' -> ring(n[0], n[1], n[2]);
            default -> even(n[0]);
        };
    }

    // ---- looking

    int count(int what) {
        return switch (what) {
            case 0 -> now.open.size();
            case 1 -> (int) now.openServers().count();
            case 2 -> now.jobs.size();
            case 3 -> (int) now.jobs.stream().filter(job -> job.server == null).count();
            case 4 -> now.sum();
            case 5 -> now.greatest();
            case 6 -> now.openServers().map(now::load).min().orElse(0);
            case 7 -> now.bound();
            case 8 -> now.target();
            case 9 -> now.even() ? 1 : 0;
            case 10 -> now.budget;
            case 11 -> now.factor;
            case 12 -> now.moves;
            case 13 -> history.size();
            case 14 -> text.length();
            default -> INVALID;
        };
    }

    int server(int server, int what) {
        if (!now.hasServer(server)) {
            return INVALID;
        }
        return switch (what) {
            case 0 -> now.open.get(server) ? 1 : 0;
            case 1 -> now.load(server);
            case 2 -> now.leaving(server).size();
            case 3 -> now.sum() == 0 ? 0 : 1000 * now.load(server) / now.sum();
            case 4 -> now.leaving(server).stream().mapToInt(job -> 1 << job.number).sum();
            default -> INVALID;
        };
    }

    int job(int job, int what) {
        if (!now.hasJob(job)) {
            return INVALID;
        }
        Job it = now.jobs.get(job);
        return switch (what) {
            case 0 -> it.size;
            case 1 -> it.price;
            case 2 -> it.server == null ? NONE : it.server;
            case 3 -> it.moved;
            default -> INVALID;
        };
    }

    int leaving(int server, int index) {
        if (!now.hasServer(server) || index < 0) {
            return INVALID;
        }
        List<Job> jobs = now.leaving(server);
        return index < jobs.size() ? jobs.get(index).number : NONE;
    }

    int step(int what) {
        if (what < 0 || what > 3) {
            return INVALID;
        }
        Candidate step = chosen(now);
        if (step == null) {
            return NONE;
        }
        return new int[] {step.job, step.server, step.other, step.price}[what];
    }

    int plan(int what) {
        if (what < 0 || what > 4) {
            return INVALID;
        }
        List<State> states = plan(now, 30);
        State last = states.get(states.size() - 1);
        return new int[] {states.size() - 1, last.moves - now.moves, now.budget - last.budget,
            last.greatest(), last.even() ? 1 : 0}[what];
    }

    int fewest(int what) {
        if (what < 0 || what > 1) {
            return INVALID;
        }
        int target = now.target();
        int[] loads = now.servers().map(now::load).toArray();
        List<int[]> moves = new ArrayList<>();
        for (Job job : now.jobs) {
            if (job.server != null) {
                now.openServers().filter(to -> to != job.server)
                        .forEach(to -> moves.add(new int[] {job.number, job.server, to, job.size, job.price}));
            }
        }
        List<List<int[]>> rows = new ArrayList<>(List.of(List.of()));
        moves.forEach(move -> rows.add(List.of(move)));
        int best = NONE;
        int length = 0;
        for (List<int[]> row : rows) {
            if (isEvenBehind(row, loads, target) && (best == NONE || row.size() == length && price(row) < best)) {
                best = price(row);
                length = row.size();
            }
        }
        if (best == NONE) {
            length = 2;
            for (int[] first : moves) {
                for (int[] second : moves) {
                    List<int[]> row = List.of(first, second);
                    boolean isRow = first[0] != second[0] && isEvenBehind(row, loads, target);
                    if (isRow && (best == NONE || price(row) < best)) {
                        best = price(row);
                    }
                }
            }
        }
        return best == NONE ? NONE : what == 0 ? length : best;
    }

    private static boolean isEvenBehind(List<int[]> row, int[] loads, int target) {
        int[] then = loads.clone();
        for (int[] move : row) {
            then[move[1]] -= move[3];
            then[move[2]] += move[3];
        }
        return IntStream.of(then).allMatch(load -> load <= target);
    }

    private static int price(List<int[]> row) {
        return row.stream().mapToInt(move -> move[4]).sum();
    }

    int without(int server) {
        if (!now.hasServer(server)) {
            return INVALID;
        }
        if (!now.open.get(server) || now.openServers().count() == 1) {
            return ILLEGAL;
        }
        return now.without(server).greatest();
    }
}
