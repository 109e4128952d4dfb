import java.util.ArrayList;
import java.util.HashMap;
import java.util.List;
import java.util.Map;
import java.util.regex.Matcher;
import java.util.regex.Pattern;

/**
 * An object to which calls are told as a text: "2*addServer() add(10, 1, 0) move(0, 1)=10" adds two
 * servers and a job, and says that the move answers 10. A call without "=" must not answer an error.
 * "type(p1;)" appends the signs of a text.
 */
final class Told {
    private static final int MOST_CALLS = 512;
    private static final Pattern CALL =
            Pattern.compile("\\s*(?:(\\d+)\\*)?(\\w+)\\(([^)]*)\\)(?:=(-?\\w+))?\\s*");
    private static final Map<String, Integer> NAMES = Map.of(
            "MIN", Integer.MIN_VALUE, "MAX", Integer.MAX_VALUE,
            "INVALID", Due.INVALID, "ILLEGAL", Due.ILLEGAL, "FULL", Due.FULL, "NONE", Due.NONE);
    private static final Map<String, List<Call>> READ = new HashMap<>();

    private record Call(int times, String name, String argument, int[] numbers, String due) {
        String text() {
            return (times == 1 ? "" : times + "*") + name + "(" + argument + ")";
        }
    }

    private final EvenLoads x = new EvenLoads();
    private final StringBuilder told = new StringBuilder();
    private int calls = 0;

    static Told of(String text) {
        Told object = new Told();
        object.does(text);
        return object;
    }

    void does(String text) {
        for (Call call : READ.computeIfAbsent(text, Told::read)) {
            told.append(told.isEmpty() ? "" : " ").append(call.text());
            for (int i = 0; i < call.times; i++) {
                int answer = ask(call);
                if (call.due == null) {
                    Due.due(told + "=" + answer + ", which is no error,", answer >= 0);
                } else {
                    Due.due(told.toString(), answer, number(call.due));
                }
            }
        }
    }

    /** The answer of one call. */
    int answer(String text) {
        List<Call> only = READ.computeIfAbsent(text, Told::read);
        told.append(told.isEmpty() ? "" : " ").append(text);
        return ask(only.get(0));
    }

    /** All that the calls that look tell, each number and each one beside them, but for count(13) and count(14). */
    String state() {
        StringBuilder state = new StringBuilder();
        for (int what = 0; what <= 12; what++) {
            look(state, "count", what);
        }
        int servers = look(state, "count", 0);
        for (int server = 0; server <= servers; server++) {
            for (int what = 0; what <= 4; what++) {
                look(state, "server", server, what);
            }
            int index = 0;
            while (look(state, "leaving", server, index) >= 0) {
                index++;
            }
            look(state, "without", server);
        }
        int jobs = look(state, "count", 2);
        for (int job = 0; job <= jobs; job++) {
            for (int what = 0; what <= (job < jobs ? 3 : 0); what++) {
                look(state, "job", job, what);
            }
        }
        for (int what = 0; what <= 4; what++) {
            look(state, "step", what);
            look(state, "plan", what);
        }
        look(state, "fewest", 0);
        look(state, "fewest", 1);
        return state.toString();
    }

    /** A part of the state that takes few calls. */
    String outline() {
        StringBuilder outline = new StringBuilder();
        for (int what = 0; what <= 12; what++) {
            look(outline, "count", what);
        }
        int job = 0;
        while (look(outline, "job", job, 2) != Due.INVALID) {
            job++;
        }
        return outline.toString();
    }

    /** The states that are left and the length of the text. */
    String rest() {
        StringBuilder rest = new StringBuilder();
        look(rest, "count", 13);
        look(rest, "count", 14);
        return rest.toString();
    }

    @Override
    public String toString() {
        return told.toString();
    }

    private int look(StringBuilder into, String name, int... numbers) {
        int answer = ask(new Call(1, name, "", numbers, null));
        into.append(name).append(' ').append(numbers[0]);
        into.append(numbers.length > 1 ? " " + numbers[1] : "").append('=').append(answer).append(' ');
        return answer;
    }

    private static List<Call> read(String text) {
        List<Call> read = new ArrayList<>();
        Matcher matcher = CALL.matcher(text);
        for (int place = 0; place < text.length(); place = matcher.end()) {
            if (!matcher.find(place) || matcher.start() != place) {
                throw new IllegalArgumentException("no call at: " + text.substring(place));
            }
            int times = matcher.group(1) == null ? 1 : Integer.parseInt(matcher.group(1));
            String name = matcher.group(2);
            String argument = matcher.group(3);
            read.add(new Call(times, name, argument, numbers(name, argument), matcher.group(4)));
        }
        return read;
    }

    private static int[] numbers(String name, String argument) {
        if (name.equals("type")) {
            return argument.chars().toArray();
        }
        if (argument.isEmpty()) {
            return new int[0];
        }
        String[] parts = argument.split(", ");
        int[] numbers = new int[parts.length];
        for (int i = 0; i < parts.length; i++) {
            numbers[i] = number(parts[i]);
        }
        return numbers;
    }

    private static int number(String text) {
        Integer named = NAMES.get(text);
        return named != null ? named : Integer.parseInt(text);
    }

    private int ask(Call call) {
        calls += call.name.equals("type") ? call.numbers.length : 1;
        if (calls > MOST_CALLS) {
            throw new IllegalStateException("the object has had its " + MOST_CALLS + " calls");
        }
        int[] n = call.numbers;
        return switch (call.name) {
            case "addServer" -> x.addServer();
            case "add" -> x.add(n[0], n[1], n[2]);
            case "finish" -> x.finish(n[0]);
            case "setBudget" -> x.setBudget(n[0]);
            case "setFactor" -> x.setFactor(n[0]);
            case "move" -> x.move(n[0], n[1]);
            case "exchange" -> x.exchange(n[0], n[1]);
            case "ring" -> x.ring(n[0], n[1], n[2]);
            case "even" -> x.even(n[0]);
            case "close" -> x.close(n[0]);
            case "open" -> x.open(n[0]);
            case "undo" -> x.undo();
            case "append" -> x.append(n[0]);
            case "clearText" -> x.clearText();
            case "run" -> x.run();
            case "count" -> x.count(n[0]);
            case "server" -> x.server(n[0], n[1]);
            case "job" -> x.job(n[0], n[1]);
            case "leaving" -> x.leaving(n[0], n[1]);
            case "step" -> x.step(n[0]);
            case "plan" -> x.plan(n[0]);
            case "fewest" -> x.fewest(n[0]);
            case "without" -> x.without(n[0]);
            case "type" -> typed(n);
            default -> throw new IllegalArgumentException("no such call: " + call.name);
        };
    }

    /** The length behind the last sign. */
    private int typed(int[] signs) {
        int length = 0;
        for (int sign : signs) {
            length = x.append(sign);
        }
        return length;
    }
}
