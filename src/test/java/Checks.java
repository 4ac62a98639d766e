/** Counts what answers as it is due, and tells what does not, by the line of the test that asked. */
public final class Checks {
    interface Call {
        Object answer();
    }

    interface CallOf {
        Object answer(int number);
    }

    interface Act {
        void run();
    }

    static final Class<?> INDEX = IndexOutOfBoundsException.class;
    static final Class<?> ARGUMENT = IllegalArgumentException.class;
    static final Class<?> STATE = IllegalStateException.class;

    private final String name;
    private int right;
    private int wrong;

    Checks(String name) {
        this.name = name;
    }

    void due(Object want, Call call) {
        judge(want, answerOf(call));
    }

    void fails(Class<?> kind, Act act) {
        judge(kind, answerOf(() -> {
            act.run();
            return "no exception";
        }));
    }

    /** An exception answers with its very class, so one that the machine throws is another answer. */
    static Object answerOf(Call call) {
        try {
            return call.answer();
        } catch (RuntimeException e) {
            return e.getClass();
        }
    }

    /** The argument may be from least to greatest; the numbers next to these and the farthest ones are refused. */
    void range(int least, int greatest, Class<?> refusal, CallOf call) {
        for (int number : new int[] {Integer.MIN_VALUE, least - 1, greatest + 1, Integer.MAX_VALUE}) {
            judge(refusal, answerOf(() -> call.answer(number)));
        }
        for (int number = least; number <= greatest; number += greatest - least > 100 ? greatest - least : 1) {
            int each = number;
            Object got = answerOf(() -> call.answer(each));
            judge("taken", got instanceof Class<?> ? "refused: " + each + " by " + got : "taken");
        }
    }

    /** A desk on which part 0 has one version of that cost, with the request 0 of person 0 for it, resolved. */
    Approvalyard resolvedAt(int cost) {
        Approvalyard d = new Approvalyard();
        d.version(0, cost);
        d.request(0, 0, 1);
        due(cost, () -> d.resolve(0));
        return d;
    }

    /** A desk with so many parts, each in two versions without a cost. */
    static Approvalyard partsOfTwo(int parts) {
        Approvalyard d = new Approvalyard();
        for (int part = 0; part < parts; part++) {
            d.version(part, 0);
            d.version(part, 0);
        }
        return d;
    }

    /** All that can be asked of a request, but for its choice and its strain. */
    void state(Approvalyard d, int request, int state, int cost, int approvals, int covered) {
        due(state, () -> d.ofRequest(request, 0));
        due(cost, () -> d.ofRequest(request, 1));
        due(approvals, () -> d.ofRequest(request, 2));
        due(covered, () -> d.ofRequest(request, 3));
        due(covered == 1, () -> d.isCoveredAnew(request));
    }

    /** The versions chosen for a request, from part 0 on; of the parts that are not named there is none. */
    void choice(Approvalyard d, int request, int... versions) {
        for (int part = 0; part < 8; part++) {
            int each = part;
            due(part < versions.length ? versions[part] : Approvalyard.NONE, () -> d.chosen(request, each));
        }
    }

    /** How many answers were not as due. */
    int wrong() {
        return wrong;
    }

    void judge(Object want, Object got) {
        if (want.equals(got)) {
            right++;
            return;
        }
        wrong++;
        if (wrong <= 20) {
            System.out.println(name + ", " + place() + ": answered " + got + ", due is " + want);
        }
    }

    void end() {
        System.out.println(name + ": " + right + " answers as due, " + wrong + " not");
        if (wrong != 0 || right == 0) {
            System.exit(1);
        }
    }

    private static String place() {
        for (StackTraceElement call : new Throwable().getStackTrace()) {
            if (!call.getClassName().startsWith("Checks")) {
                return call.getMethodName() + ":" + call.getLineNumber();
            }
        }
        return "?";
    }
}
