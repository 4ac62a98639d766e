import java.util.ArrayList;
import java.util.List;

/** The sentences of the document on the book, on exceptions, on the constants and on how long an object is used. */
final class BookSentences {
    private static final int NONE = Approvalyard.NONE, OPEN = Approvalyard.OPEN;
    private static final int RESOLVED = Approvalyard.RESOLVED, RELEASED = Approvalyard.RELEASED;
    private static final int LEAST = Integer.MIN_VALUE, MOST = Integer.MAX_VALUE;

    private BookSentences() {
    }

    static void add(List<Sentence> all) {
        String in = "THE BOOK";
        all.add(new Sentence("What it is",
                "An object is used for at most 512 calls after it has been made; what later calls answer is free.",
                t -> {
                    allCallsTold(t);
                    allCallsRefused(t);
                    laterCalls(t);
                }));
        all.add(new Sentence(in,
                "The book has all that was told, in order; from it each request can be judged anew: whether it is"
                + " covered.", BookSentences::judgedAnew));
        all.add(new Sentence(in, "A method that throws an exception changes nothing.", BookSentences::changesNothing));
        all.add(new Sentence(in, "If several exceptions apply, the one that is documented first is thrown.",
                BookSentences::firstDocumented));
        all.add(new Sentence(in,
                "IndexOutOfBoundsException is thrown where there is no such part, version, request or person;"
                + " IllegalArgumentException if another argument is out of range.", BookSentences::farOut));
        all.add(new Sentence(in, "The constants: `NONE = -1`: There is none.",
                t -> t.due(-1, () -> constant("NONE"))));
        all.add(new Sentence(in, "`OPEN = 0, RESOLVED = 1, RELEASED = 2`: How requests are.", t -> {
            t.due(0, () -> constant("OPEN"));
            t.due(1, () -> constant("RESOLVED"));
            t.due(2, () -> constant("RELEASED"));
        }));
    }

    /** The constant in the class as it is now: a name alone would be its value when the test was compiled. */
    private static Object constant(String name) {
        try {
            return Approvalyard.class.getField(name).get(null);
        } catch (ReflectiveOperationException e) {
            return "no constant " + name;
        }
    }

    /** Each of the 512 calls has its entry, and the last one counts as the others do. */
    private static void allCallsTold(Checks t) {
        Approvalyard d = t.resolvedAt(150);
        for (int call = 4; call <= 510; call++) {
            int days = call - 3;
            t.due(days, () -> d.pass(1));
        }
        t.due(100, () -> d.limit(1, 150));
        t.due(1, () -> d.approve(0, 1));
        t.due(512, () -> d.entries());
        t.state(d, 0, RESOLVED, 150, 1, 1);
        Approvalyard last = new Approvalyard();
        last.version(7, 5);
        for (int call = 2; call <= 511; call++) {
            last.limit(7, call);
        }
        t.due(511, () -> last.limit(7, 10000));
        t.due(512, () -> last.entries());
    }

    /** What throws, and what only asks, takes no entry: one call of the 512 is enough to be told. */
    private static void allCallsRefused(Checks t) {
        Approvalyard d = t.resolvedAt(100);
        for (int call = 4; call <= 508; call += 5) {
            t.fails(Checks.STATE, () -> d.release(0));
            t.fails(Checks.INDEX, () -> d.limit(8, 0));
            t.fails(Checks.ARGUMENT, () -> d.pass(61));
            t.due(false, () -> d.isCoveredAnew(0));
            t.due(NONE, () -> d.chosen(0, 1));
        }
        t.due(3, () -> d.entries());
        t.due(1, () -> d.approve(0, 1));
        t.due(true, () -> d.isCoveredAnew(0));
        t.due(4, () -> d.entries());
    }

    /** What is answered after the 512th call is free, but the machine throws nothing and each call ends. */
    private static void laterCalls(Checks t) {
        Approvalyard d = t.resolvedAt(100);
        for (int call = 4; call <= 1200; call++) {
            int number = call;
            Object[] got = {
                Checks.answerOf(() -> d.version(number % 8, 1)), Checks.answerOf(() -> d.need(0, 1, 7, 1, 3)),
                Checks.answerOf(() -> d.request(0, 0, 1)), Checks.answerOf(() -> d.resolve(number % 31)),
                Checks.answerOf(() -> d.approve(number % 31, 1 + number % 7)), Checks.answerOf(() -> d.pass(60)),
                Checks.answerOf(() -> d.leave(number % 7, 7, 60)), Checks.answerOf(() -> d.limit(number % 8, number)),
                Checks.answerOf(() -> d.replace(number % 8, 1)), Checks.answerOf(() -> d.isCoveredAnew(0)),
                Checks.answerOf(() -> d.strain(0)), Checks.answerOf(() -> d.ofRequest(0, 2)),
            };
            for (Object each : got) {
                boolean isMachine = each instanceof Class<?> && each != Checks.INDEX && each != Checks.ARGUMENT
                        && each != Checks.STATE;
                t.judge("no machine's exception", isMachine ? each : "no machine's exception");
            }
        }
    }

    /** After each call that can change whether a request is covered, it is judged anew as it is. */
    private static void judgedAnew(Checks t) {
        Approvalyard d = new Approvalyard();
        d.version(0, 600);
        d.version(0, 1);
        d.version(1, 150);
        for (int number = 0; number < 3; number++) {
            d.request(number, number / 2, 1);
        }
        coveredAre(t, d, false, false, false);
        d.need(0, 2, 2, 1, 1);
        d.resolve(0);
        d.resolve(1);
        d.resolve(2);
        coveredAre(t, d, false, false, false);
        d.limit(5, 600);
        d.limit(6, 300);
        d.approve(0, 5);
        d.leave(5, 6, 3);
        d.approve(0, 6);
        d.approve(2, 6);
        coveredAre(t, d, true, false, true);
        // These would change it, if what came before were judged by what came after.
        d.limit(5, 0);
        d.limit(6, 0);
        d.leave(5, 7, 60);
        d.version(0, 1);
        d.need(0, 1, 3, 1, 1);
        coveredAre(t, d, true, false, true);
        d.release(0);
        coveredAre(t, d, true, false, true);
        d.pass(3);
        coveredAre(t, d, false, false, true);
        d.limit(5, 10000);
        d.limit(4, 10000);
        d.limit(3, 10000);
        d.approve(1, 4);
        d.approve(1, 3);
        coveredAre(t, d, false, true, true);
        d.replace(0, 1);
        coveredAre(t, d, false, false, true);
        d.resolve(2);
        coveredAre(t, d, false, false, false);
    }

    private static void coveredAre(Checks t, Approvalyard d, boolean... covered) {
        for (int times = 0; times < 2; times++) {
            for (int request = 0; request < covered.length; request++) {
                int number = request;
                t.due(covered[number], () -> d.isCoveredAnew(number));
                t.due(covered[number] ? 1 : 0, () -> d.ofRequest(number, 3));
            }
        }
    }

    /** Two desks are told the same; one of them refuses calls in between, and answers like the other then. */
    private static void changesNothing(Checks t) {
        for (int refused = 0; refused < refusals(busy()).size(); refused++) {
            Approvalyard d = busy();
            Approvalyard like = busy();
            int number = refused;
            for (int times = 0; times < 2; times++) {
                t.judge("refused", Checks.answerOf(() -> refusals(d).get(number).answer()) instanceof Class<?>
                        ? "refused" : "the refusal " + number + " was not refused");
            }
            t.judge(allOf(like), allOf(d));
        }
    }

    /** Request 0 is released, 1 resolved with an approval, 2 resolved, 3 OPEN; part 7 and its version 3 are full. */
    private static Approvalyard busy() {
        Approvalyard d = new Approvalyard();
        for (int version = 1; version <= 3; version++) {
            d.version(7, version);
            d.version(version, 150);
        }
        for (int need = 1; need <= 4; need++) {
            d.need(7, 3, 1 + need % 3, 1, 3);
        }
        d.replace(7, 2);
        int[] parts = {7, 1, 2, 4};
        for (int number = 0; number < 4; number++) {
            d.request(number, parts[number], 1);
        }
        d.limit(4, 453);
        d.limit(5, 9);
        d.leave(3, 6, 60);
        d.leave(4, 6, 20);
        d.leave(6, 5, 2);
        d.pass(4);
        d.limit(6, 250);
        d.resolve(0);
        d.approve(0, 6);
        d.release(0);
        d.resolve(1);
        d.approve(1, 6);
        d.resolve(2);
        return d;
    }

    private static List<Checks.Call> refusals(Approvalyard d) {
        List<Checks.Call> all = new ArrayList<>();
        for (int[] a : new int[][] {{-1, 0}, {8, 0}, {0, -1}, {0, 1001}, {7, 0}}) {
            all.add(() -> d.version(a[0], a[1]));
        }
        for (int[] a : new int[][] {{8, 1, 1, 1, 1}, {1, 1, 8, 1, 1}, {1, 0, 2, 1, 1}, {1, 2, 2, 1, 1},
            {1, 1, 1, 1, 1}, {1, 1, 2, 0, 1}, {1, 1, 2, 2, 1}, {1, 1, 2, 1, 4}, {7, 3, 1, 1, 1}}) {
            all.add(() -> d.need(a[0], a[1], a[2], a[3], a[4]));
        }
        for (int[] a : new int[][] {{8, 1}, {1, 0}, {1, 2}, {7, 2}}) {
            all.add(() -> d.replace(a[0], a[1]));
        }
        for (int[] a : new int[][] {{8, 1, 1}, {1, 8, 1}, {1, 1, 0}, {1, 1, 4}}) {
            all.add(() -> d.request(a[0], a[1], a[2]));
        }
        for (int number : new int[] {-1, 4, 0}) {
            all.add(() -> d.resolve(number));
        }
        for (int[] a : new int[][] {{8, 5}, {5, -1}, {5, 10001}}) {
            all.add(() -> d.limit(a[0], a[1]));
        }
        for (int[] a : new int[][] {{8, 1, 1}, {1, 8, 1}, {1, 1, 1}, {1, 2, 0}, {1, 2, 61}, {3, 8, 1}, {4, 4, 1},
            {4, 5, 0}, {4, 5, 61}}) {
            all.add(() -> d.leave(a[0], a[1], a[2]));
        }
        // Not RESOLVED, OPEN or released; of the person; on leave; limit and half too low; has done so.
        for (int[] a : new int[][] {{4, 1}, {1, 8}, {3, 1}, {0, 7}, {1, 1}, {2, 2}, {2, 4}, {2, 5}, {1, 6}}) {
            all.add(() -> d.approve(a[0], a[1]));
        }
        for (int number : new int[] {-1, 4, 0, 2, 3}) {
            all.add(() -> refusedRelease(d, number));
        }
        all.add(() -> d.pass(0));
        all.add(() -> d.pass(61));
        all.add(() -> d.chosen(4, 0));
        all.add(() -> d.ofRequest(1, 4));
        all.add(() -> d.isCoveredAnew(4));
        all.add(() -> d.strain(4));
        return all;
    }

    private static Object refusedRelease(Approvalyard d, int request) {
        d.release(request);
        return "released";
    }

    /** All that can be asked of a desk, as days go by, and then all that shows by what it still takes. */
    private static List<Object> allOf(Approvalyard d) {
        List<Object> all = new ArrayList<>();
        ask(d, all);
        for (int days : new int[] {1, 14, 1}) {
            all.add(d.pass(days));
            ask(d, all);
        }
        for (int number = 0; number < 4; number++) {
            int n = number;
            all.add(Checks.answerOf(() -> refusedRelease(d, n)));
            all.add(Checks.answerOf(() -> d.resolve(n)));
        }
        for (int part = 0; part < 8; part++) {
            all.add(d.request(part, part, 1));
            all.add(d.resolve(4 + part));
        }
        whoIsAway(d, all);
        for (int part = 0; part < 8; part++) {
            int p = part;
            all.add(Checks.answerOf(() -> d.version(p, 10)));
            for (int version = 1; version <= 3; version++) {
                int v = version;
                all.add(Checks.answerOf(() -> d.need(p, v, (p + 1) % 8, 1, 3)));
                all.add(Checks.answerOf(() -> d.replace(p, v)));
            }
        }
        ask(d, all);
        return all;
    }

    /** The limits, who can approve, and for whom, if one after the other is the only one whose limit is enough. */
    private static void whoIsAway(Approvalyard d, List<Object> all) {
        for (int person = 0; person < 8; person++) {
            all.add(d.limit(person, 75));
        }
        for (int person = 0; person < 8; person++) {
            d.limit(person, 150);
            for (int request : new int[] {2, 5}) {
                int r = request;
                all.add(d.resolve(r));
                for (int other = 0; other < 8; other++) {
                    int o = other;
                    all.add(Checks.answerOf(() -> d.approve(r, o)));
                }
            }
            d.limit(person, 75);
        }
    }

    private static void ask(Approvalyard d, List<Object> all) {
        all.add(d.entries());
        for (int request = 0; request < 4; request++) {
            int r = request;
            for (int what = 0; what < 4; what++) {
                all.add(d.ofRequest(r, what));
            }
            for (int part = 0; part < 8; part++) {
                all.add(d.chosen(r, part));
            }
            all.add(d.strain(r));
            all.add(d.isCoveredAnew(r));
        }
    }

    /** Each pair of exceptions that one call can ask for. */
    private static void firstDocumented(Checks t) {
        Approvalyard d = new Approvalyard();
        for (int version = 1; version <= 3; version++) {
            d.version(0, 0);
        }
        for (int need = 1; need <= 4; need++) {
            d.need(0, 1, 1, 1, 3);
        }
        for (int number = 0; number < 30; number++) {
            d.request(0, 0, 1);
        }
        t.fails(Checks.INDEX, () -> d.version(8, 1001));
        t.fails(Checks.ARGUMENT, () -> d.version(0, 1001));
        t.fails(Checks.INDEX, () -> d.need(8, 1, 8, 1, 3));
        t.fails(Checks.INDEX, () -> d.need(8, 1, 1, 0, 3));
        t.fails(Checks.INDEX, () -> d.need(0, 4, 0, 1, 3));
        t.fails(Checks.INDEX, () -> d.need(0, 4, 1, 0, 3));
        t.fails(Checks.INDEX, () -> d.need(0, 1, 8, 1, 4));
        t.fails(Checks.INDEX, () -> d.need(0, 1, 8, 1, 3));
        t.fails(Checks.ARGUMENT, () -> d.need(0, 1, 0, 1, 3));
        t.fails(Checks.ARGUMENT, () -> d.need(0, 1, 1, 0, 3));
        t.fails(Checks.ARGUMENT, () -> d.need(0, 1, 1, 1, 4));
        t.fails(Checks.INDEX, () -> d.request(8, 0, 0));
        t.fails(Checks.INDEX, () -> d.request(0, 8, 4));
        t.fails(Checks.INDEX, () -> d.request(8, 0, 1));
        t.fails(Checks.INDEX, () -> d.request(0, 8, 1));
        t.fails(Checks.ARGUMENT, () -> d.request(0, 0, 4));
        t.fails(Checks.INDEX, () -> d.limit(8, 10001));
        t.fails(Checks.INDEX, () -> d.leave(8, 8, 1));
        t.fails(Checks.INDEX, () -> d.leave(8, 0, 61));
        t.fails(Checks.INDEX, () -> d.leave(0, 8, 0));
        t.fails(Checks.INDEX, () -> d.approve(0, 8));
        t.fails(Checks.INDEX, () -> d.approve(30, 0));
        t.fails(Checks.INDEX, () -> d.ofRequest(30, 4));
    }

    /** The farthest numbers in each place, with all else as it may be. */
    private static void farOut(Checks t) {
        Approvalyard d = t.resolvedAt(100);
        for (int far : new int[] {LEAST, LEAST + 1, LEAST + 7, -1 << 16, 1 << 16, 1 << 30, MOST - 7, MOST - 1, MOST}) {
            t.fails(Checks.INDEX, () -> d.version(far, 0));
            t.fails(Checks.ARGUMENT, () -> d.version(0, far));
            t.fails(Checks.INDEX, () -> d.need(far, 1, 1, 1, 1));
            t.fails(Checks.INDEX, () -> d.need(0, far, 1, 1, 1));
            t.fails(Checks.INDEX, () -> d.need(0, 1, far, 1, 1));
            t.fails(Checks.ARGUMENT, () -> d.need(0, 1, 1, far, 3));
            t.fails(Checks.ARGUMENT, () -> d.need(0, 1, 1, 1, far));
            t.fails(Checks.ARGUMENT, () -> d.need(0, 1, 1, far, far));
            t.fails(Checks.INDEX, () -> d.replace(far, 1));
            t.fails(Checks.INDEX, () -> d.replace(0, far));
            t.fails(Checks.INDEX, () -> d.request(far, 0, 1));
            t.fails(Checks.INDEX, () -> d.request(0, far, 1));
            t.fails(Checks.ARGUMENT, () -> d.request(0, 0, far));
            t.fails(Checks.INDEX, () -> d.resolve(far));
            t.fails(Checks.INDEX, () -> d.chosen(far, 0));
            t.fails(Checks.INDEX, () -> d.chosen(0, far));
            t.fails(Checks.INDEX, () -> d.limit(far, 0));
            t.fails(Checks.ARGUMENT, () -> d.limit(0, far));
            t.fails(Checks.INDEX, () -> d.leave(far, 0, 1));
            t.fails(Checks.INDEX, () -> d.leave(0, far, 1));
            t.fails(Checks.ARGUMENT, () -> d.leave(0, 1, far));
            t.fails(Checks.INDEX, () -> d.approve(far, 1));
            t.fails(Checks.INDEX, () -> d.approve(0, far));
            t.fails(Checks.INDEX, () -> d.release(far));
            t.fails(Checks.ARGUMENT, () -> d.pass(far));
            t.fails(Checks.INDEX, () -> d.ofRequest(far, 0));
            t.fails(Checks.ARGUMENT, () -> d.ofRequest(0, far));
            t.fails(Checks.INDEX, () -> d.isCoveredAnew(far));
            t.fails(Checks.INDEX, () -> d.strain(far));
        }
        t.due(3, () -> d.entries());
    }
}
