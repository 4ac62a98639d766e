/** Counts what answers as it is due, and tells what does not, by the line of the test that asked. */
final class Checks {
    interface Call {
        Object answer();
    }

    interface Act {
        void run();
    }

    static final Class<?> INDEX = IndexOutOfBoundsException.class;
    static final Class<?> ARGUMENT = IllegalArgumentException.class;
    static final Class<?> STATE = IllegalStateException.class;

    private final String name;
    private int right;
    private int wrong;

    Checks(String name) {
        this.name = name;
    }

    void due(Object want, Call call) {
        judge(want, answerOf(call));
    }

    void fails(Class<?> kind, Act act) {
        judge(kind, answerOf(() -> {
            act.run();
            return "no exception";
        }));
    }

    /** An exception answers with its very class, so one that the machine throws is another answer. */
    static Object answerOf(Call call) {
        try {
            return call.answer();
        } catch (RuntimeException e) {
            return e.getClass();
        }
    }

    void judge(Object want, Object got) {
        if (want.equals(got)) {
            right++;
            return;
        }
        wrong++;
        if (wrong <= 20) {
            System.out.println(name + ", " + place() + ": answered " + got + ", due is " + want);
        }
    }

    void end() {
        System.out.println(name + ": " + right + " answers as due, " + wrong + " not");
        if (wrong != 0 || right == 0) {
            System.exit(1);
        }
    }

    private static String place() {
        for (StackTraceElement call : new Throwable().getStackTrace()) {
            if (!call.getClassName().startsWith("Checks")) {
                return call.getMethodName() + ":" + call.getLineNumber();
            }
        }
        return "?";
    }
}
