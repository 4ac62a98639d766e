import java.util.List;
import java.util.Map;

/** Calls with any arguments, also after the 512th: only the exceptions of the document, and always an end. */
public final class WildTest {
    private static final int[] NUMBERS = {
        Integer.MIN_VALUE, Integer.MIN_VALUE + 1, -65536, -9, -2, -1, 0, 1, 2, 3, 4, 5, 6, 7, 8, 9, 29, 30, 31, 60, 61,
        500, 501, 511, 512, 513, 1000, 1001, 10000, 10001, 65536, 1 << 30, Integer.MAX_VALUE - 1, Integer.MAX_VALUE
    };
    private static final Map<String, List<Class<?>>> MAY_THROW = Map.ofEntries(
        Map.entry("version", List.of(Checks.INDEX, Checks.ARGUMENT, Checks.STATE)),
        Map.entry("need", List.of(Checks.INDEX, Checks.ARGUMENT, Checks.STATE)),
        Map.entry("replace", List.of(Checks.INDEX, Checks.STATE)),
        Map.entry("request", List.of(Checks.INDEX, Checks.ARGUMENT, Checks.STATE)),
        Map.entry("resolve", List.of(Checks.INDEX, Checks.STATE)),
        Map.entry("chosen", List.of(Checks.INDEX)),
        Map.entry("limit", List.of(Checks.INDEX, Checks.ARGUMENT)),
        Map.entry("leave", List.of(Checks.INDEX, Checks.ARGUMENT)),
        Map.entry("approve", List.of(Checks.INDEX, Checks.STATE)),
        Map.entry("release", List.of(Checks.INDEX, Checks.STATE)),
        Map.entry("pass", List.of(Checks.ARGUMENT)),
        Map.entry("ofRequest", List.of(Checks.INDEX, Checks.ARGUMENT)),
        Map.entry("isCoveredAnew", List.of(Checks.INDEX)),
        Map.entry("strain", List.of(Checks.INDEX)),
        Map.entry("entries", List.of()));

    private static final Checks t = new Checks("WildTest");
    private static long seed = 5;

    public static void main(String[] args) {
        String[] names = MAY_THROW.keySet().stream().sorted().toArray(String[]::new);
        for (int run = 0; run < 60; run++) {
            Approvalyard desk = new Approvalyard();
            for (int call = 0; call < 3000; call++) {
                String name = names[next(names.length)];
                int[] a = {number(), number(), number(), number(), number()};
                Object got = Checks.answerOf(() -> answer(desk, name, a));
                boolean isFine = !(got instanceof Class<?>) || MAY_THROW.get(name).contains(got);
                t.judge("an answer of the document", isFine ? "an answer of the document" : name + " " + got);
            }
        }
        dearest();
        t.end();
    }

    /** The dearest calls that there can be: a search through all choices, and a full book judged anew. */
    private static void dearest() {
        Approvalyard desk = new Approvalyard();
        for (int part = 0; part < 8; part++) {
            for (int version = 1; version <= 3; version++) {
                desk.version(part, 1000);
            }
        }
        for (int part = 0; part < 7; part++) {
            for (int version = 1; version <= 3; version++) {
                desk.need(part, version, part + 1, 1, 3);
            }
        }
        for (int version = 1; version <= 3; version++) {
            desk.need(7, version, 0, 1, 1);
        }
        desk.request(0, 0, 1);
        for (int call = 49; call < 512; call++) {
            t.due(call % 2 == 0 ? (Object) false : 8000, () -> callOf(desk));
        }
        t.due(1, () -> desk.chosen(0, 0));
        t.due(3, () -> desk.chosen(0, 7));
    }

    private static int turn = 0;

    private static Object callOf(Approvalyard desk) {
        turn++;
        return turn % 2 == 0 ? (Object) desk.isCoveredAnew(0) : (Object) desk.resolve(0);
    }

    private static Object answer(Approvalyard d, String name, int[] a) {
        switch (name) {
            case "version": return d.version(a[0], a[1]);
            case "need": return d.need(a[0], a[1], a[2], a[3], a[4]);
            case "replace": return d.replace(a[0], a[1]);
            case "request": return d.request(a[0], a[1], a[2]);
            case "resolve": return d.resolve(a[0]);
            case "limit": return d.limit(a[0], a[1]);
            case "leave": return d.leave(a[0], a[1], a[2]);
            case "approve": return d.approve(a[0], a[1]);
            case "release": d.release(a[0]); return 0;
            case "pass": return d.pass(a[0]);
            case "chosen": return d.chosen(a[0], a[1]);
            case "ofRequest": return d.ofRequest(a[0], a[1]);
            case "isCoveredAnew": return d.isCoveredAnew(a[0]);
            case "strain": return d.strain(a[0]);
            default: return d.entries();
        }
    }

    private static int number() {
        return next(5) == 0 ? NUMBERS[next(NUMBERS.length)] : next(8);
    }

    private static int next(int bound) {
        seed = seed * 6364136223846793005L + 1442695040888963407L;
        return (int) ((seed >>> 33) % bound);
    }
}
