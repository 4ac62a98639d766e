import java.io.IOException;
import java.util.List;

/** Calls with any arguments, also after the 512th: only the exceptions of the document, and always an end. */
public final class WildTest {
    private static final int[] NUMBERS = {
        Integer.MIN_VALUE, Integer.MIN_VALUE + 1, -65536, -9, -2, -1, 0, 1, 2, 3, 4, 5, 6, 7, 8, 9, 29, 30, 31, 60, 61,
        500, 501, 511, 512, 513, 1000, 1001, 10000, 10001, 65536, 1 << 30, Integer.MAX_VALUE - 1, Integer.MAX_VALUE
    };
    private static final Checks t = new Checks("WildTest");
    private static final Calls calls = new Calls(5);

    public static void main(String[] args) throws IOException {
        List<Face.Call> face = new Face().calls;
        for (int run = 0; run < 60; run++) {
            Approvalyard desk = new Approvalyard();
            for (int call = 0; call < 3000; call++) {
                Face.Call each = face.get(calls.next(face.size()));
                int[] a = {number(), number(), number(), number(), number()};
                Object got = Checks.answerOf(() -> Calls.answer(desk, each.name(), a));
                boolean isFine = !(got instanceof Class<?> thrown)
                        || each.exceptions().contains(thrown.getSimpleName());
                t.judge("an answer of the document", isFine ? "an answer of the document" : each.name() + " " + got);
            }
        }
        dearest();
        t.end();
    }

    /** The dearest calls that there can be: a search through all choices, and a full book judged anew. */
    private static void dearest() {
        Approvalyard desk = new Approvalyard();
        for (int part = 0; part < 8; part++) {
            for (int version = 1; version <= 3; version++) {
                desk.version(part, 1000);
            }
        }
        for (int part = 0; part < 7; part++) {
            for (int version = 1; version <= 3; version++) {
                desk.need(part, version, part + 1, 1, 3);
            }
        }
        for (int version = 1; version <= 3; version++) {
            desk.need(7, version, 0, 1, 1);
        }
        desk.request(0, 0, 1);
        for (int entries = 49; entries <= 278; entries++) {
            t.due(8000, () -> desk.resolve(0));
            t.due(false, () -> desk.isCoveredAnew(0));
        }
        t.due(1, () -> desk.chosen(0, 0));
        t.due(3, () -> desk.chosen(0, 7));
    }

    private static int number() {
        return calls.next(5) == 0 ? NUMBERS[calls.next(NUMBERS.length)] : calls.next(8);
    }
}
