import java.util.Random;
import java.util.TreeMap;

/** Runs of random calls on EvenLoads and on Model, which must answer alike. The seeds are fixed. */
public final class RandomRunsTest {
    private static final int RUNS = 1500;
    private static final int CALLS = 512;
    /** What one text may take: its signs, some more than there is room for, and what looks at it. */
    private static final int MOST_SIGNS = 105;
    private static final int CALLS_OF_A_TEXT = MOST_SIGNS + 18;
    private static final int[] FAR = {
        Integer.MIN_VALUE, Integer.MAX_VALUE, Integer.MIN_VALUE + 1, 1 << 24, -1, -9, 24, 32, 255, 256,
    };
    private static final String SIGNS = "jfmxrp0123456789  ;;aZ:/\t\u00c8";
    /** How often each kind of answer of each call was met. */
    private static final TreeMap<String, Integer> MET = new TreeMap<>();

    private final Random random;
    private final EvenLoads x = new EvenLoads();
    private final Model model = new Model();
    private final StringBuilder calls = new StringBuilder();
    private final int mostSize;
    private final int mostPrice;
    private final int mostBudget;
    private final int mostFactor;
    private int called = 0;
    private boolean isWrong = false;

    private RandomRunsTest(int seed) {
        random = new Random(seed);
        mostSize = pick(3, 10, 60, 1000);
        mostPrice = pick(0, 2, 9, 100);
        mostBudget = pick(5, 50, 500, 10000);
        mostFactor = pick(100, 110, 130, 400);
    }

    public static void main(String[] args) {
        for (int seed = 0; seed < RUNS; seed++) {
            RandomRunsTest run = new RandomRunsTest(seed);
            run.start();
            while (run.called < CALLS && !run.isWrong) {
                run.next();
            }
            if (run.isWrong) {
                System.out.println("seed " + seed + ":" + run.calls);
            }
        }
        reached();
        Due.end();
    }

    /** The runs are of no use if they do not come to each kind of answer. */
    private static void reached() {
        String kinds = "addServer:ok addServer:-3 add:ok add:-1 add:-2 add:-3 finish:ok finish:-1 finish:-2 "
                + "setBudget:ok setBudget:-1 setFactor:ok setFactor:-1 move:ok move:-1 move:-2 exchange:ok "
                + "exchange:-1 exchange:-2 ring:ok ring:-1 ring:-2 even:ok even:-1 close:ok close:-1 close:-2 "
                + "open:ok open:-1 open:-2 undo:ok undo:-2 append:ok append:-1 append:-3 clearText:ok run:ok "
                + "run:failed count:ok count:-1 server:ok server:-1 job:ok job:-1 job:-9 leaving:ok leaving:-1 "
                + "leaving:-9 step:ok step:-1 step:-9 plan:ok plan:-1 fewest:ok fewest:-1 fewest:-9 without:ok "
                + "without:-1 without:-2";
        for (String kind : kinds.split(" ")) {
            Due.due("random runs meet " + kind, MET.containsKey(kind));
        }
        Due.due("random runs meet no others than these: " + MET.keySet(), MET.size(), kinds.split(" ").length);
    }

    private int pick(int... numbers) {
        return numbers[random.nextInt(numbers.length)];
    }

    /** A number from least to most, sometimes one beside them, seldom one far away. */
    private int near(int least, int most) {
        int kind = random.nextInt(60);
        if (kind == 0) {
            return pick(FAR);
        }
        if (kind <= 2) {
            return kind == 1 ? least - 1 : most + 1;
        }
        return least + random.nextInt(Math.max(1, most - least + 1));
    }

    private int anyServer() {
        return near(0, model.count(0) - 1);
    }

    private int anyJob() {
        return near(0, model.count(2) - 1);
    }

    private int size() {
        return near(1, mostSize);
    }

    private int price() {
        return near(0, mostPrice);
    }

    private void met(String call, int got, int want, int... arguments) {
        called++;
        StringBuilder text = new StringBuilder(call).append('(');
        for (int i = 0; i < arguments.length; i++) {
            text.append(i == 0 ? "" : ", ").append(arguments[i]);
        }
        text.append(')');
        calls.append(' ').append(text).append('=').append(got);
        String kind = got >= 0 ? "ok" : got <= -1000 ? "failed" : String.valueOf(got);
        MET.merge(call + ":" + kind, 1, Integer::sum);
        Due.due(text.toString(), got, want);
        isWrong |= got != want;
    }

    private void start() {
        int servers = random.nextInt(7);
        for (int i = 0; i < servers; i++) {
            met("addServer", x.addServer(), model.addServer());
        }
        int crowd = 1 + random.nextInt(Math.max(1, servers));
        int jobs = random.nextInt(25);
        for (int i = 0; i < jobs; i++) {
            int server = random.nextInt(crowd);
            int size = size();
            int price = price();
            met("add", x.add(size, price, server), model.add(size, price, server), size, price, server);
        }
        factor();
    }

    private void next() {
        int kind = random.nextInt(100);
        if (kind < 35) {
            change(random.nextInt(24));
        } else if (kind < 39 && called + CALLS_OF_A_TEXT <= CALLS) {
            text();
        } else {
            look(random.nextInt(9));
        }
    }

    private void factor() {
        int factor = near(100, mostFactor);
        met("setFactor", x.setFactor(factor), model.setFactor(factor), factor);
    }

    private void change(int kind) {
        int a = anyJob();
        int b = anyJob();
        int c = anyJob();
        int server = anyServer();
        switch (kind) {
            case 0 -> met("addServer", x.addServer(), model.addServer());
            case 1, 2, 3 -> {
                int size = size();
                int price = price();
                met("add", x.add(size, price, server), model.add(size, price, server), size, price, server);
            }
            case 4, 5 -> met("finish", x.finish(a), model.finish(a), a);
            case 6, 7 -> {
                int budget = random.nextInt(20) == 0 ? near(0, 10000) : near(0, mostBudget);
                met("setBudget", x.setBudget(budget), model.setBudget(budget), budget);
            }
            case 8 -> factor();
            case 9, 10, 11 -> met("move", x.move(a, server), model.move(a, server), a, server);
            case 12, 13, 14 -> met("exchange", x.exchange(a, b), model.exchange(a, b), a, b);
            case 15, 16 -> met("ring", x.ring(a, b, c), model.ring(a, b, c), a, b, c);
            case 17 -> {
                int steps = random.nextInt(4) == 0 ? near(1, 30) : near(1, 3);
                met("even", x.even(steps), model.even(steps), steps);
            }
            case 18 -> met("close", x.close(server), model.close(server), server);
            case 19, 20 -> met("open", x.open(server), model.open(server), server);
            default -> met("undo", x.undo(), model.undo());
        }
    }

    private void look(int kind) {
        int server = anyServer();
        int job = anyJob();
        switch (kind) {
            case 0 -> {
                int what = near(0, 14);
                met("count", x.count(what), model.count(what), what);
            }
            case 1 -> {
                int what = near(0, 4);
                met("server", x.server(server, what), model.server(server, what), server, what);
            }
            case 2 -> {
                int what = near(0, 3);
                met("job", x.job(job, what), model.job(job, what), job, what);
            }
            case 3 -> {
                int index = near(0, 8);
                met("leaving", x.leaving(server, index), model.leaving(server, index), server, index);
            }
            case 4, 5 -> {
                int what = near(0, 3);
                met("step", x.step(what), model.step(what), what);
            }
            case 6 -> {
                int what = near(0, 4);
                met("plan", x.plan(what), model.plan(what), what);
            }
            case 7 -> {
                int what = near(0, 1);
                met("fewest", x.fewest(what), model.fewest(what), what);
            }
            default -> met("without", x.without(server), model.without(server), server);
        }
    }

    private void text() {
        if (random.nextInt(8) != 0) {
            met("clearText", x.clearText(), model.clearText());
        }
        StringBuilder text = new StringBuilder();
        int orders = random.nextInt(random.nextInt(10) == 0 ? 30 : 5);
        for (int i = 0; i < orders; i++) {
            order(text);
        }
        if (random.nextInt(3) == 0) {
            spoil(text);
        }
        for (int i = 0; i < Math.min(text.length(), MOST_SIGNS); i++) {
            int sign = text.charAt(i);
            met("append", x.append(sign), model.append(sign), sign);
        }
        if (random.nextInt(10) == 0) {
            int sign = near(1, 255);
            met("append", x.append(sign), model.append(sign), sign);
        }
        met("run", x.run(), model.run());
        for (int what = 0; what <= 14; what++) {
            met("count", x.count(what), model.count(what), what);
        }
    }

    private void order(StringBuilder text) {
        int kind = random.nextInt(6);
        spaces(text, 4);
        text.append("jfmxrp".charAt(kind));
        switch (kind) {
            case 0 -> numbers(text, size(), price(), anyServer());
            case 1 -> numbers(text, anyJob());
            case 2 -> numbers(text, anyJob(), anyServer());
            case 3 -> numbers(text, anyJob(), anyJob());
            case 4 -> numbers(text, anyJob(), anyJob(), anyJob());
            default -> numbers(text, near(1, 30));
        }
        text.append(';');
    }

    private void numbers(StringBuilder text, int... numbers) {
        for (int i = 0; i < numbers.length; i++) {
            spaces(text, 4);
            text.append(i == 0 ? "" : " ").append(Math.max(0, numbers[i]));
            spaces(text, 8);
        }
    }

    private void spaces(StringBuilder text, int seldom) {
        if (random.nextInt(seldom) == 0) {
            text.append(random.nextBoolean() ? " " : "  ");
        }
    }

    private void spoil(StringBuilder text) {
        char sign = SIGNS.charAt(random.nextInt(SIGNS.length()));
        int place = random.nextInt(text.length() + 1);
        switch (random.nextInt(4)) {
            case 0 -> text.insert(place, sign);
            case 1 -> text.setLength(place);
            case 2 -> text.replace(place, Math.min(place + 1, text.length()), String.valueOf(sign));
            default -> text.replace(place, Math.min(place + 1, text.length()), "");
        }
    }
}
