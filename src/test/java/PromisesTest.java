/** Each promise of the document by itself: ordinary inputs, the edges that it names, and wrong inputs. */
public final class PromisesTest {
    private static final int NONE = Approvalyard.NONE, OPEN = Approvalyard.OPEN;
    private static final int RESOLVED = Approvalyard.RESOLVED, RELEASED = Approvalyard.RELEASED;
    private static final int LEAST = Integer.MIN_VALUE, MOST = Integer.MAX_VALUE;

    private static final Checks t = new Checks("PromisesTest");

    public static void main(String[] args) {
        constants();
        newObject();
        version();
        need();
        needOrder();
        replaceWrong();
        replaceEnds();
        replaceReleased();
        request();
        resolveWrong();
        resolveOne();
        resolveNeeds();
        resolveOrder();
        resolveBack();
        resolveCycle();
        resolveAgain();
        chosen();
        limit();
        leave();
        leaveInPlace();
        approveWrong();
        approveOwn();
        approveDelegate();
        approveHalf();
        approveAgain();
        personZero();
        release();
        coveredByTwo();
        pass();
        ofRequest();
        coveredAnew();
        strain();
        entries();
        fullBook();
        throwingChangesNothing();
        t.end();
    }

    private static void constants() {
        t.due(-1, () -> Approvalyard.NONE);
        t.due(0, () -> Approvalyard.OPEN);
        t.due(1, () -> Approvalyard.RESOLVED);
        t.due(2, () -> Approvalyard.RELEASED);
    }

    private static void newObject() {
        Approvalyard d = new Approvalyard();
        t.due(0, () -> d.entries());
        t.fails(Checks.INDEX, () -> d.ofRequest(0, 0));
        for (int part = 0; part < 8; part++) {
            int each = part;
            t.fails(Checks.INDEX, () -> d.replace(each, 1));
        }
        t.due(1, () -> new Approvalyard().pass(1));
        for (int person = 0; person < 8; person++) {
            int each = person;
            t.due(100, () -> d.limit(each, each));
        }
        t.due(1, () -> d.leave(0, 1, 1));
        Approvalyard other = new Approvalyard();
        t.due(1, () -> other.version(0, 0));
        t.due(1, () -> new Approvalyard().version(0, 0));
    }

    private static void version() {
        Approvalyard d = new Approvalyard();
        t.fails(Checks.INDEX, () -> d.version(-1, 0));
        t.fails(Checks.INDEX, () -> d.version(8, 0));
        t.fails(Checks.INDEX, () -> d.version(LEAST, -1));
        t.fails(Checks.INDEX, () -> d.version(MOST, 1001));
        t.fails(Checks.ARGUMENT, () -> d.version(0, -1));
        t.fails(Checks.ARGUMENT, () -> d.version(7, 1001));
        t.fails(Checks.ARGUMENT, () -> d.version(7, LEAST));
        for (int part = 0; part < 8; part++) {
            int each = part;
            t.due(1, () -> d.version(each, 0));
            t.due(2, () -> d.version(each, 1000));
            t.due(3, () -> d.version(each, 1));
            t.fails(Checks.STATE, () -> d.version(each, 1));
            t.fails(Checks.ARGUMENT, () -> d.version(each, 1001));
        }
        d.replace(3, 1);
        t.fails(Checks.STATE, () -> d.version(3, 1));
        t.due(25, () -> d.entries());
    }

    private static void need() {
        Approvalyard d = new Approvalyard();
        d.version(2, 5);
        d.version(2, 5);
        t.fails(Checks.INDEX, () -> d.need(-1, 1, 3, 1, 1));
        t.fails(Checks.INDEX, () -> d.need(8, 1, 3, 1, 1));
        t.fails(Checks.INDEX, () -> d.need(2, 0, 3, 1, 1));
        t.fails(Checks.INDEX, () -> d.need(2, 3, 3, 1, 1));
        t.fails(Checks.INDEX, () -> d.need(2, LEAST, 3, 1, 1));
        t.fails(Checks.INDEX, () -> d.need(3, 1, 2, 1, 1));
        t.fails(Checks.INDEX, () -> d.need(2, 1, -1, 1, 1));
        t.fails(Checks.INDEX, () -> d.need(2, 1, 8, 0, 9));
        t.fails(Checks.INDEX, () -> d.need(2, 3, 2, 0, 9));
        t.fails(Checks.ARGUMENT, () -> d.need(2, 1, 2, 1, 1));
        t.fails(Checks.ARGUMENT, () -> d.need(2, 1, 3, 0, 1));
        t.fails(Checks.ARGUMENT, () -> d.need(2, 1, 3, 4, 4));
        t.fails(Checks.ARGUMENT, () -> d.need(2, 1, 3, 1, 4));
        t.fails(Checks.ARGUMENT, () -> d.need(2, 1, 3, 2, 1));
        t.fails(Checks.ARGUMENT, () -> d.need(2, 1, 3, 1, 0));
        t.fails(Checks.ARGUMENT, () -> d.need(2, 1, 3, LEAST, MOST));
        t.due(1, () -> d.need(2, 1, 3, 1, 3));
        t.due(2, () -> d.need(2, 1, 3, 3, 3));
        t.due(1, () -> d.need(2, 2, 7, 1, 1));
        t.due(3, () -> d.need(2, 1, 0, 1, 2));
        t.due(4, () -> d.need(2, 1, 7, 2, 3));
        t.due(7, () -> d.entries());
    }

    private static void needOrder() {
        Approvalyard d = new Approvalyard();
        d.version(0, 1);
        for (int count = 1; count <= 4; count++) {
            int due = count;
            t.due(due, () -> d.need(0, 1, 1, 1, 1));
        }
        t.fails(Checks.STATE, () -> d.need(0, 1, 1, 1, 1));
        t.fails(Checks.ARGUMENT, () -> d.need(0, 1, 0, 1, 1));
        t.fails(Checks.ARGUMENT, () -> d.need(0, 1, 1, 2, 1));
        t.fails(Checks.INDEX, () -> d.need(0, 2, 1, 1, 1));
        d.replace(0, 1);
        t.fails(Checks.STATE, () -> d.need(0, 1, 1, 1, 1));
        d.version(0, 1);
        t.due(1, () -> d.need(0, 2, 1, 1, 1));
        d.replace(0, 2);
        t.due(2, () -> d.need(0, 2, 1, 1, 1));
    }

    private static void replaceWrong() {
        Approvalyard d = new Approvalyard();
        d.version(4, 5);
        t.fails(Checks.INDEX, () -> d.replace(-1, 1));
        t.fails(Checks.INDEX, () -> d.replace(8, 1));
        t.fails(Checks.INDEX, () -> d.replace(4, 0));
        t.fails(Checks.INDEX, () -> d.replace(4, 2));
        t.fails(Checks.INDEX, () -> d.replace(4, LEAST));
        t.fails(Checks.INDEX, () -> d.replace(5, 1));
        t.due(0, () -> d.replace(4, 1));
        t.fails(Checks.STATE, () -> d.replace(4, 1));
        t.fails(Checks.INDEX, () -> d.replace(4, 2));
        d.pass(60);
        t.fails(Checks.STATE, () -> d.replace(4, 1));
    }

    private static void replaceEnds() {
        Approvalyard d = new Approvalyard();
        d.version(0, 10);
        d.version(0, 20);
        d.version(1, 30);
        d.need(0, 2, 1, 1, 1);
        d.request(0, 0, 1);
        d.request(1, 1, 1);
        d.request(2, 0, 1);
        d.request(3, 1, 1);
        t.due(50, () -> d.resolve(0));
        t.due(30, () -> d.resolve(1));
        t.due(50, () -> d.resolve(2));
        d.approve(0, 5);
        d.approve(0, 6);
        d.approve(1, 5);
        d.approve(2, 7);
        t.due(0, () -> d.replace(0, 1));
        t.state(d, 0, RESOLVED, 50, 2, 1);
        t.due(3, () -> d.replace(0, 2));
        t.state(d, 0, OPEN, NONE, 0, 0);
        t.state(d, 1, RESOLVED, 30, 1, 1);
        t.state(d, 2, OPEN, NONE, 0, 0);
        t.choice(d, 0);
        t.choice(d, 1, NONE, 1);
        t.choice(d, 2);
        t.due(30, () -> d.resolve(3));
        t.due(1, () -> d.replace(1, 1));
        t.state(d, 1, OPEN, NONE, 0, 0);
        t.state(d, 3, OPEN, NONE, 0, 0);
    }

    private static void replaceReleased() {
        Approvalyard d = new Approvalyard();
        d.version(0, 10);
        d.version(1, 30);
        d.need(0, 1, 1, 1, 1);
        d.limit(1, 30);
        d.leave(2, 1, 5);
        d.request(0, 0, 1);
        d.resolve(0);
        t.due(2, () -> d.approve(0, 1));
        t.due(3, () -> d.approve(0, 3));
        t.due(4, () -> d.approve(0, 4));
        d.release(0);
        d.pass(5);
        t.due(2, () -> d.replace(1, 1));
        t.state(d, 0, RELEASED, 40, 0, 0);
        t.choice(d, 0, 1, 1);
        t.due(0, () -> d.replace(0, 1));
        t.state(d, 0, RELEASED, 40, 0, 0);
        t.choice(d, 0, 1, 1);
        t.fails(Checks.STATE, () -> d.approve(0, 3));
        t.fails(Checks.STATE, () -> d.resolve(0));
        t.fails(Checks.STATE, () -> d.release(0));
    }

    private static void request() {
        Approvalyard d = new Approvalyard();
        t.fails(Checks.INDEX, () -> d.request(-1, 0, 1));
        t.fails(Checks.INDEX, () -> d.request(8, 0, 1));
        t.fails(Checks.INDEX, () -> d.request(0, -1, 1));
        t.fails(Checks.INDEX, () -> d.request(0, 8, 1));
        t.fails(Checks.INDEX, () -> d.request(0, MOST, 0));
        t.fails(Checks.ARGUMENT, () -> d.request(0, 0, 0));
        t.fails(Checks.ARGUMENT, () -> d.request(7, 7, 4));
        t.fails(Checks.ARGUMENT, () -> d.request(7, 7, LEAST));
        for (int number = 0; number < 30; number++) {
            int each = number;
            t.due(each, () -> d.request(each % 8, 7 - each % 8, 1 + each % 3));
            t.state(d, each, OPEN, NONE, 0, 0);
        }
        t.fails(Checks.STATE, () -> d.request(0, 0, 1));
        t.fails(Checks.ARGUMENT, () -> d.request(0, 0, 0));
        t.fails(Checks.INDEX, () -> d.request(0, 8, 0));
        t.fails(Checks.INDEX, () -> d.ofRequest(30, 0));
        t.due(30, () -> d.entries());
    }

    private static void resolveWrong() {
        Approvalyard d = new Approvalyard();
        t.fails(Checks.INDEX, () -> d.resolve(0));
        d.request(0, 0, 1);
        t.fails(Checks.INDEX, () -> d.resolve(-1));
        t.fails(Checks.INDEX, () -> d.resolve(1));
        t.fails(Checks.INDEX, () -> d.resolve(MOST));
        t.due(NONE, () -> d.resolve(0));
        t.state(d, 0, OPEN, NONE, 0, 0);
        d.version(0, 7);
        t.due(7, () -> d.resolve(0));
        d.approve(0, 1);
        d.release(0);
        t.fails(Checks.STATE, () -> d.resolve(0));
        t.state(d, 0, RELEASED, 7, 1, 1);
    }

    private static void resolveOne() {
        Approvalyard d = new Approvalyard();
        d.version(5, 1);
        d.version(5, 20);
        d.request(0, 5, 1);
        d.request(0, 5, 2);
        d.request(0, 5, 3);
        t.due(20, () -> d.resolve(0));
        t.due(20, () -> d.resolve(1));
        t.due(NONE, () -> d.resolve(2));
        d.version(5, 300);
        t.due(300, () -> d.resolve(2));
        t.due(300, () -> d.resolve(0));
        t.choice(d, 0, NONE, NONE, NONE, NONE, NONE, 3);
        d.replace(5, 3);
        t.due(NONE, () -> d.resolve(2));
        t.due(20, () -> d.resolve(1));
        d.replace(5, 2);
        t.due(NONE, () -> d.resolve(1));
        t.due(1, () -> d.resolve(0));
        d.replace(5, 1);
        t.due(NONE, () -> d.resolve(0));
    }

    private static void resolveNeeds() {
        Approvalyard d = new Approvalyard();
        for (int version = 1; version <= 3; version++) {
            d.version(0, version);
            d.version(1, 10 * version);
            d.version(2, 100 * version);
        }
        d.need(0, 3, 1, 1, 2);
        d.request(0, 0, 1);
        t.due(23, () -> d.resolve(0));
        t.choice(d, 0, 3, 2);
        d.need(0, 3, 1, 1, 1);
        t.due(13, () -> d.resolve(0));
        d.need(1, 1, 2, 2, 2);
        t.due(213, () -> d.resolve(0));
        t.choice(d, 0, 3, 1, 2);
        d.need(0, 3, 2, 3, 3);
        t.due(2, () -> d.resolve(0));
        t.choice(d, 0, 2);
        d.need(0, 2, 7, 1, 3);
        t.due(1, () -> d.resolve(0));
    }

    /** Which part comes first decides which of two choices that both hold is taken. */
    private static void resolveOrder() {
        Approvalyard d = Checks.partsOfTwo(4);
        d.need(0, 2, 2, 1, 2);
        d.need(0, 2, 1, 1, 2);
        d.need(1, 2, 2, 1, 1);
        d.request(0, 0, 1);
        d.resolve(0);
        t.choice(d, 0, 2, 1, 2);
        // Part 3 comes to be needed behind part 1, though by the one that is chosen before it.
        d.need(2, 2, 3, 1, 2);
        d.need(1, 1, 3, 1, 1);
        d.resolve(0);
        t.choice(d, 0, 2, 1, 2, 1);

        Approvalyard wide = Checks.partsOfTwo(4);
        wide.need(0, 2, 1, 1, 2);
        wide.need(0, 2, 2, 1, 2);
        wide.need(1, 2, 3, 1, 2);
        wide.need(3, 2, 2, 1, 1);
        wide.request(0, 0, 1);
        wide.resolve(0);
        // Part 2 was needed before part 3, which is needed by part 1 alone: so part 2 keeps its greatest.
        t.choice(wide, 0, 2, 2, 2, 1);
    }

    /** The last one that can be another one is changed first, and its needs go with it. */
    private static void resolveBack() {
        Approvalyard d = new Approvalyard();
        for (int version = 1; version <= 3; version++) {
            for (int part = 0; part < 5; part++) {
                d.version(part, part);
            }
        }
        d.need(0, 3, 1, 1, 3);
        d.need(0, 3, 2, 1, 3);
        d.need(1, 3, 3, 2, 2);
        d.need(2, 3, 3, 3, 3);
        d.need(2, 2, 4, 1, 1);
        d.need(4, 1, 1, 1, 2);
        d.need(2, 1, 3, 1, 1);
        d.request(0, 0, 1);
        t.due(6, () -> d.resolve(0));
        t.choice(d, 0, 3, 2, 3, 3);
        d.replace(3, 3);
        t.due(7, () -> d.resolve(0));
        t.choice(d, 0, 3, 2, 2, NONE, 1);
        d.replace(4, 1);
        t.due(6, () -> d.resolve(0));
        t.choice(d, 0, 3, 2, 1, 1);
        d.replace(3, 1);
        t.due(0, () -> d.resolve(0));
        t.choice(d, 0, 2);
    }

    private static void resolveCycle() {
        Approvalyard d = new Approvalyard();
        for (int version = 1; version <= 3; version++) {
            d.version(0, version);
            d.version(1, 10 * version);
        }
        for (int version = 1; version <= 3; version++) {
            d.need(0, version, 1, version, version);
            d.need(1, version, 0, version == 3 ? 1 : version, version == 3 ? 2 : version);
        }
        d.request(0, 0, 1);
        d.request(0, 0, 3);
        d.request(0, 1, 1);
        t.due(22, () -> d.resolve(0));
        t.due(NONE, () -> d.resolve(1));
        t.due(22, () -> d.resolve(2));
        d.replace(0, 2);
        t.due(11, () -> d.resolve(0));
        t.due(11, () -> d.resolve(2));
    }

    private static void resolveAgain() {
        Approvalyard d = t.resolvedAt(50);
        d.approve(0, 1);
        d.version(0, 60);
        t.state(d, 0, RESOLVED, 50, 1, 1);
        t.due(60, () -> d.resolve(0));
        t.state(d, 0, RESOLVED, 60, 0, 0);
        t.choice(d, 0, 2);
        t.due(1, () -> d.approve(0, 1));
        t.due(60, () -> d.resolve(0));
        t.state(d, 0, RESOLVED, 60, 0, 0);
        t.due(1, () -> d.approve(0, 1));
        d.need(0, 1, 1, 1, 1);
        d.need(0, 2, 1, 1, 1);
        int entries = d.entries();
        t.due(NONE, () -> d.resolve(0));
        t.due(entries, () -> d.entries());
        t.state(d, 0, RESOLVED, 60, 1, 1);
        t.choice(d, 0, 2);
    }

    private static void chosen() {
        Approvalyard d = new Approvalyard();
        t.fails(Checks.INDEX, () -> d.chosen(0, 0));
        d.version(6, 1);
        d.version(7, 1);
        d.version(7, 1);
        d.need(7, 2, 6, 1, 3);
        d.request(0, 7, 1);
        t.choice(d, 0);
        d.resolve(0);
        t.choice(d, 0, NONE, NONE, NONE, NONE, NONE, NONE, 1, 2);
        t.fails(Checks.INDEX, () -> d.chosen(-1, 0));
        t.fails(Checks.INDEX, () -> d.chosen(1, 0));
        t.fails(Checks.INDEX, () -> d.chosen(0, -1));
        t.fails(Checks.INDEX, () -> d.chosen(0, 8));
        t.fails(Checks.INDEX, () -> d.chosen(0, LEAST));
    }

    private static void limit() {
        Approvalyard d = new Approvalyard();
        t.fails(Checks.INDEX, () -> d.limit(-1, 5));
        t.fails(Checks.INDEX, () -> d.limit(8, -1));
        t.fails(Checks.ARGUMENT, () -> d.limit(0, -1));
        t.fails(Checks.ARGUMENT, () -> d.limit(7, 10001));
        t.fails(Checks.ARGUMENT, () -> d.limit(7, LEAST));
        t.due(100, () -> d.limit(7, 10000));
        t.due(10000, () -> d.limit(7, 0));
        t.due(0, () -> d.limit(7, 5));
        t.due(100, () -> d.limit(6, 5));
        t.due(4, () -> d.entries());
    }

    private static void leave() {
        Approvalyard d = new Approvalyard();
        t.fails(Checks.INDEX, () -> d.leave(-1, 0, 1));
        t.fails(Checks.INDEX, () -> d.leave(8, 8, 0));
        t.fails(Checks.INDEX, () -> d.leave(0, -1, 1));
        t.fails(Checks.INDEX, () -> d.leave(0, 8, 61));
        t.fails(Checks.ARGUMENT, () -> d.leave(3, 3, 1));
        t.fails(Checks.ARGUMENT, () -> d.leave(3, 4, 0));
        t.fails(Checks.ARGUMENT, () -> d.leave(3, 4, 61));
        t.fails(Checks.ARGUMENT, () -> d.leave(3, 4, LEAST));
        t.due(1, () -> d.leave(3, 4, 1));
        t.due(60, () -> d.leave(3, 4, 60));
        d.pass(9);
        t.due(10, () -> d.leave(3, 4, 1));
        t.due(69, () -> d.leave(4, 3, 60));
        t.due(5, () -> d.entries());

        Approvalyard away = t.resolvedAt(50);
        away.leave(1, 2, 2);
        t.fails(Checks.STATE, () -> away.approve(0, 1));
        away.pass(1);
        t.fails(Checks.STATE, () -> away.approve(0, 1));
        away.pass(1);
        t.due(1, () -> away.approve(0, 1));
    }

    private static void leaveInPlace() {
        Approvalyard d = t.resolvedAt(150);
        d.limit(1, 150);
        d.leave(1, 2, 10);
        t.due(1, () -> d.approve(0, 2));
        d.leave(1, 3, 2);
        t.state(d, 0, RESOLVED, 150, 1, 1);
        d.resolve(0);
        t.fails(Checks.STATE, () -> d.approve(0, 2));
        t.due(1, () -> d.approve(0, 3));
        d.leave(1, 2, 4);
        t.due(1, () -> d.approve(0, 2));
        t.state(d, 0, RESOLVED, 150, 2, 1);
        d.pass(2);
        t.state(d, 0, RESOLVED, 150, 1, 1);
        t.fails(Checks.STATE, () -> d.approve(0, 1));
        d.leave(1, 2, 1);
        d.pass(1);
        t.due(1, () -> d.approve(0, 1));
        t.state(d, 0, RESOLVED, 150, 2, 1);
        d.pass(1);
        t.state(d, 0, RESOLVED, 150, 1, 1);
    }

    private static void approveWrong() {
        Approvalyard d = new Approvalyard();
        t.fails(Checks.INDEX, () -> d.approve(0, 1));
        d.version(0, 100);
        d.request(2, 0, 1);
        t.fails(Checks.INDEX, () -> d.approve(-1, 1));
        t.fails(Checks.INDEX, () -> d.approve(1, 1));
        t.fails(Checks.INDEX, () -> d.approve(0, -1));
        t.fails(Checks.INDEX, () -> d.approve(0, 8));
        t.fails(Checks.STATE, () -> d.approve(0, 1));
        d.resolve(0);
        t.fails(Checks.INDEX, () -> d.approve(0, 8));
        t.fails(Checks.STATE, () -> d.approve(0, 2));
        t.due(1, () -> d.approve(0, 1));
        t.fails(Checks.STATE, () -> d.approve(0, 1));
        d.release(0);
        t.fails(Checks.STATE, () -> d.approve(0, 3));
        t.fails(Checks.INDEX, () -> d.approve(0, 8));
    }

    private static void approveOwn() {
        Approvalyard d = t.resolvedAt(101);
        for (int person = 0; person < 8; person++) {
            int each = person;
            t.fails(Checks.STATE, () -> d.approve(0, each));
        }
        d.limit(7, 101);
        t.due(7, () -> d.approve(0, 7));
        d.limit(7, 0);
        t.state(d, 0, RESOLVED, 101, 1, 1);
        t.fails(Checks.STATE, () -> d.approve(0, 7));
        // The own limit goes before that of one on leave with a lower number, and does not end.
        d.limit(6, 101);
        d.limit(5, 101);
        d.leave(5, 6, 1);
        t.due(6, () -> d.approve(0, 6));
        d.pass(1);
        t.state(d, 0, RESOLVED, 101, 2, 1);

        Approvalyard free = t.resolvedAt(0);
        free.limit(1, 0);
        t.state(free, 0, RESOLVED, 0, 0, 0);
        t.due(1, () -> free.approve(0, 1));
        t.state(free, 0, RESOLVED, 0, 1, 1);
    }

    private static void approveDelegate() {
        Approvalyard d = t.resolvedAt(150);
        d.limit(4, 150);
        d.limit(5, 1000);
        d.limit(3, 149);
        d.leave(5, 1, 9);
        d.leave(4, 1, 3);
        d.leave(3, 1, 9);
        t.due(4, () -> d.approve(0, 1));
        t.fails(Checks.STATE, () -> d.approve(0, 1));
        t.fails(Checks.STATE, () -> d.approve(0, 2));
        d.pass(2);
        t.state(d, 0, RESOLVED, 150, 1, 1);
        d.pass(1);
        t.state(d, 0, RESOLVED, 150, 0, 0);
        t.due(5, () -> d.approve(0, 1));
        t.due(4, () -> d.approve(0, 4));
        d.pass(60);
        t.state(d, 0, RESOLVED, 150, 1, 1);

        // The one on leave may be that of the request, but the delegate may not, nor may one on leave.
        Approvalyard own = t.resolvedAt(150);
        own.limit(0, 200);
        own.limit(1, 200);
        own.leave(0, 2, 5);
        own.leave(1, 0, 2);
        t.fails(Checks.STATE, () -> own.approve(0, 0));
        t.due(0, () -> own.approve(0, 2));
        own.resolve(0);
        own.leave(2, 3, 1);
        t.fails(Checks.STATE, () -> own.approve(0, 2));
        t.fails(Checks.STATE, () -> own.approve(0, 3));
        own.pass(1);
        t.due(0, () -> own.approve(0, 2));
        own.pass(3);
        t.state(own, 0, RESOLVED, 150, 1, 1);
        own.pass(1);
        t.state(own, 0, RESOLVED, 150, 0, 0);
        t.fails(Checks.STATE, () -> own.approve(0, 2));
        t.fails(Checks.STATE, () -> own.approve(0, 0));
    }

    private static void approveHalf() {
        Approvalyard d = t.resolvedAt(201);
        d.limit(1, 201);
        d.leave(1, 2, 60);
        t.fails(Checks.STATE, () -> d.approve(0, 2));
        d.limit(2, 101);
        t.due(1, () -> d.approve(0, 2));
        Approvalyard even = t.resolvedAt(200);
        even.limit(1, 199);
        even.leave(1, 2, 60);
        t.fails(Checks.STATE, () -> even.approve(0, 2));
        even.limit(1, 200);
        even.limit(2, 99);
        t.fails(Checks.STATE, () -> even.approve(0, 2));
        even.limit(2, 100);
        t.due(1, () -> even.approve(0, 2));
    }

    private static void approveAgain() {
        Approvalyard d = t.resolvedAt(150);
        d.limit(1, 150);
        d.leave(1, 2, 3);
        t.due(1, () -> d.approve(0, 2));
        d.limit(2, 150);
        t.fails(Checks.STATE, () -> d.approve(0, 2));
        d.pass(3);
        t.due(2, () -> d.approve(0, 2));
        t.state(d, 0, RESOLVED, 150, 1, 1);
        d.request(3, 0, 1);
        d.resolve(1);
        t.due(2, () -> d.approve(1, 2));
    }

    private static void release() {
        Approvalyard d = new Approvalyard();
        t.fails(Checks.INDEX, () -> d.release(0));
        d.version(0, 100);
        d.request(0, 0, 1);
        t.fails(Checks.INDEX, () -> d.release(-1));
        t.fails(Checks.INDEX, () -> d.release(1));
        t.fails(Checks.STATE, () -> d.release(0));
        d.resolve(0);
        t.fails(Checks.STATE, () -> d.release(0));
        d.approve(0, 1);
        int entries = d.entries();
        d.release(0);
        t.due(entries + 1, () -> d.entries());
        t.state(d, 0, RELEASED, 100, 1, 1);
        t.choice(d, 0, 1);
        t.fails(Checks.STATE, () -> d.release(0));

        Approvalyard late = t.resolvedAt(150);
        late.limit(1, 150);
        late.leave(1, 2, 3);
        late.approve(0, 2);
        late.pass(3);
        t.fails(Checks.STATE, () -> late.release(0));
        late.approve(0, 1);
        late.release(0);
        t.state(late, 0, RELEASED, 150, 1, 1);

        Approvalyard ends = t.resolvedAt(150);
        ends.limit(1, 150);
        ends.leave(1, 2, 3);
        ends.approve(0, 2);
        ends.release(0);
        ends.pass(3);
        t.state(ends, 0, RELEASED, 150, 0, 0);
    }

    private static void coveredByTwo() {
        for (int cost = 500; cost <= 501; cost++) {
            int two = cost == 501 ? 1 : 0;
            Approvalyard d = t.resolvedAt(cost);
            d.limit(1, cost);
            d.limit(2, cost);
            d.approve(0, 1);
            t.state(d, 0, RESOLVED, cost, 1, 1 - two);
            if (two == 1) {
                t.fails(Checks.STATE, () -> d.release(0));
                t.fails(Checks.STATE, () -> d.approve(0, 1));
            }
            d.approve(0, 2);
            t.state(d, 0, RESOLVED, cost, 2, 1);
            d.release(0);
            t.state(d, 0, RELEASED, cost, 2, 1);
        }
        // A delegate and who was on leave are unlike people, as are two delegates of one.
        Approvalyard d = t.resolvedAt(600);
        d.limit(1, 600);
        d.limit(2, 300);
        d.limit(3, 300);
        d.leave(1, 2, 9);
        t.due(1, () -> d.approve(0, 2));
        d.leave(1, 3, 8);
        t.due(1, () -> d.approve(0, 3));
        t.state(d, 0, RESOLVED, 600, 2, 1);
        d.pass(8);
        t.state(d, 0, RESOLVED, 600, 1, 0);
        t.due(1, () -> d.approve(0, 1));
        t.state(d, 0, RESOLVED, 600, 2, 1);
        d.pass(1);
        t.state(d, 0, RESOLVED, 600, 1, 0);
    }

    private static void pass() {
        Approvalyard d = new Approvalyard();
        t.fails(Checks.ARGUMENT, () -> d.pass(0));
        t.fails(Checks.ARGUMENT, () -> d.pass(-1));
        t.fails(Checks.ARGUMENT, () -> d.pass(61));
        t.fails(Checks.ARGUMENT, () -> d.pass(LEAST));
        t.fails(Checks.ARGUMENT, () -> d.pass(MOST));
        t.due(1, () -> d.pass(1));
        t.due(61, () -> d.pass(60));
        t.due(64, () -> d.pass(3));
        t.due(3, () -> d.entries());
    }

    private static void ofRequest() {
        Approvalyard d = new Approvalyard();
        t.fails(Checks.INDEX, () -> d.ofRequest(0, 0));
        d.version(0, 0);
        d.request(0, 0, 1);
        t.fails(Checks.INDEX, () -> d.ofRequest(-1, 4));
        t.fails(Checks.INDEX, () -> d.ofRequest(1, -1));
        t.fails(Checks.ARGUMENT, () -> d.ofRequest(0, -1));
        t.fails(Checks.ARGUMENT, () -> d.ofRequest(0, 4));
        t.fails(Checks.ARGUMENT, () -> d.ofRequest(0, LEAST));
        t.state(d, 0, OPEN, NONE, 0, 0);
        d.resolve(0);
        t.state(d, 0, RESOLVED, 0, 0, 0);
        d.approve(0, 1);
        d.approve(0, 2);
        t.state(d, 0, RESOLVED, 0, 2, 1);
        d.release(0);
        t.state(d, 0, RELEASED, 0, 2, 1);
    }

    private static void coveredAnew() {
        Approvalyard d = new Approvalyard();
        t.fails(Checks.INDEX, () -> d.isCoveredAnew(0));
        d.version(0, 150);
        d.request(0, 0, 1);
        d.request(1, 0, 1);
        t.fails(Checks.INDEX, () -> d.isCoveredAnew(-1));
        t.fails(Checks.INDEX, () -> d.isCoveredAnew(2));
        t.due(false, () -> d.isCoveredAnew(0));
        d.resolve(0);
        d.resolve(1);
        d.limit(2, 150);
        d.leave(2, 3, 4);
        d.approve(1, 3);
        d.limit(2, 1);
        d.limit(3, 1);
        d.leave(2, 4, 1);
        int entries = d.entries();
        for (int times = 0; times < 3; times++) {
            t.due(false, () -> d.isCoveredAnew(0));
            t.due(true, () -> d.isCoveredAnew(1));
        }
        t.due(entries, () -> d.entries());
        d.pass(3);
        t.due(true, () -> d.isCoveredAnew(1));
        d.pass(1);
        t.due(false, () -> d.isCoveredAnew(1));
        d.limit(5, 150);
        d.approve(0, 5);
        t.due(true, () -> d.isCoveredAnew(0));
        d.version(0, 10);
        d.need(0, 2, 1, 1, 1);
        t.due(true, () -> d.isCoveredAnew(0));
        d.resolve(0);
        t.due(false, () -> d.isCoveredAnew(0));
        d.approve(0, 5);
        t.due(true, () -> d.isCoveredAnew(0));
        d.release(0);
        t.due(true, () -> d.isCoveredAnew(0));
        d.replace(0, 1);
        t.due(false, () -> d.isCoveredAnew(0));
        t.due(false, () -> d.isCoveredAnew(1));
    }

    private static void strain() {
        Approvalyard d = new Approvalyard();
        t.fails(Checks.INDEX, () -> d.strain(0));
        d.version(0, 30);
        d.request(7, 0, 1);
        t.fails(Checks.INDEX, () -> d.strain(-1));
        t.fails(Checks.INDEX, () -> d.strain(1));
        t.due(-1.0f, () -> d.strain(0));
        d.resolve(0);
        t.due(30.0f / 100.0f, () -> d.strain(0));
        d.limit(7, 5000);
        t.due(30.0f / 100.0f, () -> d.strain(0));
        d.limit(3, 130);
        t.due(30.0f / 130.0f, () -> d.strain(0));
        d.leave(3, 4, 2);
        t.due(30.0f / 100.0f, () -> d.strain(0));
        d.pass(2);
        t.due(30.0f / 130.0f, () -> d.strain(0));
        d.approve(0, 3);
        t.due(30.0f / 130.0f, () -> d.strain(0));
        d.release(0);
        t.due(30.0f / 130.0f, () -> d.strain(0));
        d.replace(0, 1);
        t.due(30.0f / 130.0f, () -> d.strain(0));
        for (int person = 0; person < 7; person++) {
            d.limit(person, 29);
        }
        t.due(-1.0f, () -> d.strain(0));
        // By a delegate alone it cannot be done by an own limit.
        d.limit(1, 30);
        t.due(1.0f, () -> d.strain(0));
        d.leave(1, 2, 5);
        t.due(-1.0f, () -> d.strain(0));

        Approvalyard free = t.resolvedAt(0);
        t.due(0.0f, () -> free.strain(0));
        for (int person = 1; person < 8; person++) {
            free.limit(person, 0);
        }
        t.due(0.0f, () -> free.strain(0));
        for (int person = 1; person < 8; person++) {
            free.leave(person, 0, 1);
        }
        t.due(-1.0f, () -> free.strain(0));
    }

    private static void entries() {
        Approvalyard d = new Approvalyard();
        Runnable[] told = {
            () -> d.version(0, 100), () -> d.version(1, 100), () -> d.version(1, 7), () -> d.need(0, 1, 1, 1, 2),
            () -> d.replace(1, 1), () -> d.request(0, 0, 1), () -> d.resolve(0), () -> d.resolve(0),
            () -> d.limit(1, 500), () -> d.limit(1, 500), () -> d.leave(2, 3, 1), () -> d.approve(0, 1),
            () -> d.release(0), () -> d.pass(1),
        };
        for (int number = 0; number < told.length; number++) {
            int before = number;
            t.due(before, () -> d.entries());
            told[number].run();
        }
        t.due(told.length, () -> d.entries());
        d.chosen(0, 0);
        d.ofRequest(0, 2);
        d.isCoveredAnew(0);
        d.strain(0);
        t.due(told.length, () -> d.entries());
        d.request(0, 5, 1);
        t.due(NONE, () -> d.resolve(1));
        t.due(told.length + 1, () -> d.entries());
    }

    /** All 512 calls of an object may be told in the book, and all of them count when it is judged anew. */
    private static void fullBook() {
        Approvalyard d = t.resolvedAt(150);
        for (int call = 4; call <= 510; call++) {
            d.limit(7, call);
        }
        d.limit(0, 150);
        d.request(7, 0, 1);
        t.due(512, () -> d.entries());

        Approvalyard last = t.resolvedAt(100);
        for (int call = 4; call <= 511; call++) {
            last.pass(1);
        }
        t.due(false, () -> last.isCoveredAnew(0));
        last.approve(0, 1);
        t.due(512, () -> last.entries());
        t.state(last, 0, RESOLVED, 100, 1, 1);
    }

    /** Person 0 is one like the others: in approvals, as a delegate and for the strain. */
    private static void personZero() {
        Approvalyard d = new Approvalyard();
        d.version(0, 600);
        d.request(7, 0, 1);
        d.resolve(0);
        d.limit(0, 700);
        t.due(600.0f / 700.0f, () -> d.strain(0));
        t.due(0, () -> d.approve(0, 0));
        d.limit(1, 600);
        t.due(1, () -> d.approve(0, 1));
        t.state(d, 0, RESOLVED, 600, 2, 1);
        t.due(600, () -> d.resolve(0));
        t.state(d, 0, RESOLVED, 600, 0, 0);
        d.limit(0, 300);
        d.leave(1, 0, 2);
        t.due(1, () -> d.approve(0, 0));
        t.due(1, () -> d.replace(0, 1));
        t.state(d, 0, OPEN, NONE, 0, 0);
    }

    private static void throwingChangesNothing() {
        Approvalyard d = t.resolvedAt(100);
        d.version(0, 1);
        d.version(0, 1);
        d.approve(0, 1);
        int entries = d.entries();
        t.fails(Checks.STATE, () -> d.version(0, 5));
        t.fails(Checks.ARGUMENT, () -> d.version(1, 1001));
        t.fails(Checks.ARGUMENT, () -> d.need(0, 1, 0, 1, 1));
        t.fails(Checks.INDEX, () -> d.need(0, 1, 8, 1, 1));
        t.fails(Checks.INDEX, () -> d.replace(1, 1));
        t.fails(Checks.ARGUMENT, () -> d.request(0, 0, 4));
        t.fails(Checks.ARGUMENT, () -> d.limit(1, 10001));
        t.fails(Checks.ARGUMENT, () -> d.leave(2, 2, 5));
        t.fails(Checks.ARGUMENT, () -> d.leave(2, 3, 61));
        t.fails(Checks.STATE, () -> d.approve(0, 1));
        t.fails(Checks.STATE, () -> d.approve(0, 0));
        t.fails(Checks.ARGUMENT, () -> d.pass(61));
        t.fails(Checks.ARGUMENT, () -> d.ofRequest(0, 4));
        t.due(entries, () -> d.entries());
        t.state(d, 0, RESOLVED, 100, 1, 1);
        t.fails(Checks.INDEX, () -> d.replace(1, 1));
        t.fails(Checks.INDEX, () -> d.ofRequest(1, 0));
        t.due(100, () -> d.limit(1, 100));
        t.due(2, () -> d.approve(0, 2));
        t.due(1, () -> d.need(0, 1, 1, 1, 1));
        t.due(1, () -> d.pass(1));
    }
}
