import java.util.ArrayList;
import java.util.Arrays;
import java.util.HashMap;
import java.util.List;
import java.util.Map;
import java.util.TreeMap;

/** Long runs of calls, the same each time, in which every answer is compared with the model's. */
public final class RunsTest {
    private static final int RUNS = 2000, CALLS = 512;
    private static final String[] NAMES = {
        "version", "need", "replace", "request", "resolve", "limit", "leave", "approve", "release", "pass",
        "chosen", "ofRequest", "isCoveredAnew", "strain", "entries"
    };
    /** How often each is called in a run of one of three kinds: by and large, with many needs, with many people. */
    private static final int[][] WEIGHTS = {
        {8, 10, 2, 6, 16, 8, 6, 30, 8, 6, 10, 12, 8, 8, 1},
        {10, 26, 2, 6, 40, 2, 1, 4, 1, 1, 30, 3, 2, 2, 1},
        {3, 2, 1, 5, 10, 14, 16, 50, 5, 14, 2, 16, 10, 12, 1},
    };
    private static final int[] COSTS = {0, 1, 50, 99, 100, 101, 150, 200, 250, 251, 500, 501, 1000};
    private static final int[] LIMITS = {0, 1, 49, 50, 75, 100, 101, 150, 200, 250, 251, 500, 501, 1000, 3000, 10000};

    private static final Map<String, Integer> seen = new TreeMap<>();
    private static Calls calls;

    public static void main(String[] args) {
        Checks t = new Checks("RunsTest");
        for (int run = 0; run < RUNS; run++) {
            calls = new Calls(run * 7919L + 17);
            compare(t, run);
        }
        allSeen(t);
        t.end();
    }

    private static void compare(Checks t, int run) {
        Approvalyard desk = new Approvalyard();
        Model model = new Model();
        List<String> made = new ArrayList<>();
        for (int call = 0; call < CALLS; call++) {
            int kind = kind(WEIGHTS[run % WEIGHTS.length]);
            int[] a = arguments(kind, model);
            Object want = Checks.answerOf(() -> ofModel(model, kind, a));
            Object got = Checks.answerOf(() -> Calls.answer(desk, NAMES[kind], a));
            made.add(NAMES[kind] + Arrays.toString(a) + " = " + got);
            seen.merge(NAMES[kind] + " " + summary(want), 1, Integer::sum);
            t.judge(want, got);
            if (!want.equals(got)) {
                System.out.println("run " + run + ", the last call is wrong: " + made);
                t.end();
            }
        }
    }

    private static List<String> answersToSee(String name) {
        Map<String, String> answers = new HashMap<>();
        answers.put("entries", "some");
        answers.put("pass", "some ARGUMENT");
        answers.put("chosen", "some NONE INDEX");
        answers.put("strain", "some NONE INDEX");
        answers.put("isCoveredAnew", "true false INDEX");
        answers.put("ofRequest", "some NONE INDEX ARGUMENT");
        answers.put("limit", "some INDEX ARGUMENT");
        answers.put("leave", "some INDEX ARGUMENT");
        answers.put("resolve", "some NONE INDEX STATE");
        answers.put("replace", "some INDEX STATE");
        answers.put("approve", "some INDEX STATE");
        answers.put("release", "some INDEX STATE");
        return List.of(answers.getOrDefault(name, "some INDEX ARGUMENT STATE").split(" "));
    }

    /** A run that never meets an answer of a kind says nothing about it, so each has to be met. */
    private static void allSeen(Checks t) {
        for (String name : NAMES) {
            for (String answer : answersToSee(name)) {
                t.judge("seen", seen.containsKey(name + " " + answer) ? "seen" : "never seen: " + name + " " + answer);
            }
        }
    }

    private static String summary(Object answer) {
        if (answer instanceof Class<?> kind) {
            return kind == Checks.INDEX ? "INDEX" : kind == Checks.ARGUMENT ? "ARGUMENT" : "STATE";
        }
        if (answer instanceof Boolean) {
            return answer.toString();
        }
        return ((Number) answer).floatValue() == -1.0f ? "NONE" : "some";
    }

    private static Object ofModel(Model m, int kind, int[] a) {
        return switch (NAMES[kind]) {
            case "version" -> m.version(a[0], a[1]);
            case "need" -> m.need(a[0], a[1], a[2], a[3], a[4]);
            case "replace" -> m.replace(a[0], a[1]);
            case "request" -> m.request(a[0], a[1], a[2]);
            case "resolve" -> m.resolve(a[0]);
            case "limit" -> m.limit(a[0], a[1]);
            case "leave" -> m.leave(a[0], a[1], a[2]);
            case "approve" -> m.approve(a[0], a[1]);
            case "release" -> m.release(a[0]);
            case "pass" -> m.pass(a[0]);
            case "chosen" -> m.chosen(a[0], a[1]);
            case "ofRequest" -> m.ofRequest(a[0], a[1]);
            case "isCoveredAnew" -> m.isCoveredAnew(a[0]);
            case "strain" -> m.strain(a[0]);
            default -> m.entries();
        };
    }

    private static int[] arguments(int kind, Model model) {
        return switch (NAMES[kind]) {
            case "version" -> new int[] {eighth(), pick(COSTS, 1001)};
            case "need" -> needArguments();
            case "replace" -> new int[] {eighth(), third()};
            case "request" -> new int[] {eighth(), eighth(), calls.next(4) == 0 ? third() : 1};
            case "limit" -> new int[] {eighth(), pick(LIMITS, 10001)};
            case "leave" -> new int[] {eighth(), eighth(), calls.next(40) == 0 ? 60 + calls.next(2) : calls.next(9)};
            case "approve", "chosen" -> new int[] {number(model), eighth()};
            case "pass" -> new int[] {calls.next(40) == 0 ? 60 + calls.next(2) : calls.next(4)};
            case "ofRequest" -> new int[] {number(model), calls.next(60) == 0 ? calls.next(2) * 5 - 1 : calls.next(4)};
            case "entries" -> new int[0];
            default -> new int[] {number(model)};
        };
    }

    private static int[] needArguments() {
        int least = third();
        int greatest = calls.next(30) == 0 ? least - 1 : Math.min(3, least + calls.next(3));
        return new int[] {eighth(), third(), eighth(), least, greatest};
    }

    /** A part or a person, few of them out of range. */
    private static int eighth() {
        return calls.next(60) == 0 ? calls.next(2) * 9 - 1 : calls.next(8);
    }

    private static int third() {
        return calls.next(60) == 0 ? calls.next(2) * 4 : 1 + calls.next(3);
    }

    private static int number(Model model) {
        int count = model.count();
        return calls.next(60) == 0 || count == 0 ? calls.next(2) * (count + 1) - 1 : calls.next(Math.min(count, 8));
    }

    private static int pick(int[] numbers, int wrong) {
        return calls.next(60) == 0 ? calls.next(2) * (wrong + 1) - 1 : numbers[calls.next(numbers.length)];
    }

    private static int kind(int[] weights) {
        int sum = 0;
        for (int weight : weights) {
            sum += weight;
        }
        int left = calls.next(sum);
        int kind = 0;
        while (left >= weights[kind]) {
            left -= weights[kind];
            kind++;
        }
        return kind;
    }
}
