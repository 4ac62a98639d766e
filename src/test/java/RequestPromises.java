import java.util.List;

/** The sentences of the promises 5 to 7, 11 and 13: request, resolve, chosen, release and ofRequest. */
final class RequestPromises {
    private static final int NONE = Approvalyard.NONE, OPEN = Approvalyard.OPEN;
    private static final int RESOLVED = Approvalyard.RESOLVED, RELEASED = Approvalyard.RELEASED;

    private RequestPromises() {
    }

    static void add(List<Sentence> all) {
        request(all, "Promise 5");
        resolve(all, "Promise 6");
        chosen(all, "Promise 7");
        release(all, "Promise 11");
        ofRequest(all, "Promise 13");
    }

    /** So many requests of person 0, for part 0 in its one version, that costs 100. */
    private static Approvalyard withRequests(int count) {
        Approvalyard d = new Approvalyard();
        d.version(0, 100);
        for (int number = 0; number < count; number++) {
            d.request(0, 0, 1);
        }
        return d;
    }

    private static void request(List<Sentence> all, String in) {
        all.add(new Sentence(in, "Makes a request.", t -> {
            Approvalyard d = withRequests(0);
            d.version(5, 7);
            t.fails(Checks.INDEX, () -> d.resolve(0));
            d.request(3, 5, 1);
            t.state(d, 0, OPEN, NONE, 0, 0);
            t.choice(d, 0);
            t.due(7, () -> d.resolve(0));
            t.choice(d, 0, NONE, NONE, NONE, NONE, NONE, 1);
            t.fails(Checks.STATE, () -> d.approve(0, 3));
            t.fails(Checks.INDEX, () -> d.resolve(1));
        }));
        all.add(new Sentence(in, "`person`: 0 to 7",
                t -> t.range(0, 7, Checks.INDEX, person -> new Approvalyard().request(person, 0, 1))));
        all.add(new Sentence(in, "`part`: 0 to 7",
                t -> t.range(0, 7, Checks.INDEX, part -> new Approvalyard().request(0, part, 1))));
        all.add(new Sentence(in, "`least`: 1 to 3",
                t -> t.range(1, 3, Checks.ARGUMENT, least -> new Approvalyard().request(0, 0, least))));
        all.add(new Sentence(in, "Returns its number.", t -> {
            Approvalyard d = withRequests(0);
            for (int number = 0; number < 30; number++) {
                int n = number;
                t.due(n, () -> d.request(n % 8, n / 4, 1 + n % 3));
                t.due(OPEN, () -> d.ofRequest(n, 0));
                t.fails(Checks.INDEX, () -> d.ofRequest(n + 1, 0));
            }
        }));
        all.add(new Sentence(in, "Throws `IndexOutOfBoundsException` if there is no such person or part", t -> {
            for (int count = 0; count <= 30; count += 30) {
                Approvalyard d = withRequests(count);
                t.fails(Checks.INDEX, () -> d.request(-1, 0, 1));
                t.fails(Checks.INDEX, () -> d.request(8, 0, 0));
                t.fails(Checks.INDEX, () -> d.request(0, -1, 1));
                t.fails(Checks.INDEX, () -> d.request(0, 8, 4));
            }
        }));
        all.add(new Sentence(in, "Throws `IllegalArgumentException` if least is out of range", t -> {
            for (int count = 0; count <= 30; count += 30) {
                Approvalyard d = withRequests(count);
                t.fails(Checks.ARGUMENT, () -> d.request(0, 0, 0));
                t.fails(Checks.ARGUMENT, () -> d.request(7, 7, 4));
            }
        }));
        all.add(new Sentence(in, "Throws `IllegalStateException` if there are 30", t -> {
            Approvalyard d = withRequests(29);
            t.due(29, () -> d.request(7, 7, 3));
            t.fails(Checks.STATE, () -> d.request(7, 7, 3));
            d.resolve(0);
            d.approve(0, 1);
            d.release(0);
            d.replace(0, 1);
            t.fails(Checks.STATE, () -> d.request(0, 0, 1));
            t.fails(Checks.INDEX, () -> d.ofRequest(30, 0));
            t.due(35, () -> d.entries());
        }));
    }

    private static void resolve(List<Sentence> all, String in) {
        all.add(new Sentence(in, "Resolves a request.", t -> {
            Approvalyard d = withRequests(2);
            d.resolve(1);
            t.state(d, 0, OPEN, NONE, 0, 0);
            t.choice(d, 0);
            t.state(d, 1, RESOLVED, 100, 0, 0);
            t.choice(d, 1, 1);
        }));
        all.add(new Sentence(in, "`request`: its number", t -> {
            for (int count : new int[] {0, 1, 30}) {
                t.range(0, count - 1, Checks.INDEX, request -> withRequests(count).resolve(request));
            }
        }));
        all.add(new Sentence(in, "Returns its cost; NONE if there is no choice.", t -> {
            Approvalyard d = withRequests(2);
            d.version(1, 0);
            d.version(2, 1);
            d.request(0, 1, 1);
            d.request(0, 3, 1);
            t.due(NONE, () -> d.resolve(3));
            t.due(100, () -> d.resolve(0));
            t.due(0, () -> d.resolve(2));
            d.need(0, 1, 2, 1, 3);
            t.due(101, () -> d.resolve(0));
            d.replace(2, 1);
            t.due(NONE, () -> d.resolve(0));
            t.due(NONE, () -> d.resolve(1));
            // None as well for one that is RESOLVED already.
            d.need(1, 1, 2, 1, 3);
            t.state(d, 2, RESOLVED, 0, 0, 0);
            t.due(NONE, () -> d.resolve(2));
        }));
        all.add(new Sentence(in, "Throws `IndexOutOfBoundsException` if there is no such request", t -> {
            Approvalyard d = withRequests(1);
            t.fails(Checks.INDEX, () -> d.resolve(-1));
            t.fails(Checks.INDEX, () -> d.resolve(1));
            t.due(100, () -> d.resolve(0));
        }));
        all.add(new Sentence(in, "Throws `IllegalStateException` if it is RELEASED", t -> {
            Approvalyard d = withRequests(2);
            d.resolve(0);
            d.approve(0, 1);
            t.due(100, () -> d.resolve(0));
            d.approve(0, 1);
            d.release(0);
            t.fails(Checks.STATE, () -> d.resolve(0));
            d.replace(0, 1);
            // There is no choice any more, and it is not covered, but it is RELEASED.
            t.fails(Checks.STATE, () -> d.resolve(0));
            t.due(NONE, () -> d.resolve(1));
        }));
    }

    private static void chosen(List<Sentence> all, String in) {
        all.add(new Sentence(in, "Returns which version of a part is chosen for a request.", t -> {
            Approvalyard d = new Approvalyard();
            for (int part = 0; part < 8; part++) {
                for (int version = 0; version <= part % 3; version++) {
                    d.version(part, 0);
                }
            }
            for (int part = 0; part < 7; part++) {
                d.need(part, 1 + part % 3, part + 1, 1, 3);
            }
            d.request(0, 0, 1);
            d.request(0, 4, 1);
            d.resolve(0);
            d.resolve(1);
            t.choice(d, 0, 1, 2, 3, 1, 2, 3, 1, 2);
            t.choice(d, 1, NONE, NONE, NONE, NONE, 2, 3, 1, 2);
        }));
        all.add(new Sentence(in, "`request`: its number", t -> {
            for (int count : new int[] {0, 1, 30}) {
                t.range(0, count - 1, Checks.INDEX, request -> withRequests(count).chosen(request, 0));
            }
        }));
        all.add(new Sentence(in, "`part`: 0 to 7",
                t -> t.range(0, 7, Checks.INDEX, part -> withRequests(1).chosen(0, part))));
        all.add(new Sentence(in, "Returns the version, NONE without.", t -> {
            Approvalyard d = withRequests(2);
            t.choice(d, 0);
            d.resolve(0);
            t.choice(d, 0, 1);
            t.choice(d, 1);
            d.replace(0, 1);
            t.choice(d, 0);
            d.version(0, 1);
            t.choice(d, 0);
            d.resolve(0);
            t.choice(d, 0, 2);
        }));
        all.add(new Sentence(in, "Throws `IndexOutOfBoundsException` if there is no such request or part", t -> {
            Approvalyard d = withRequests(1);
            t.fails(Checks.INDEX, () -> d.chosen(-1, 0));
            t.fails(Checks.INDEX, () -> d.chosen(1, 0));
            t.fails(Checks.INDEX, () -> d.chosen(0, -1));
            t.fails(Checks.INDEX, () -> d.chosen(0, 8));
        }));
    }

    private static void release(List<Sentence> all, String in) {
        all.add(new Sentence(in, "Releases a request.", t -> {
            Approvalyard d = withRequests(2);
            d.resolve(0);
            d.resolve(1);
            d.approve(0, 1);
            d.approve(1, 1);
            d.release(1);
            t.state(d, 0, RESOLVED, 100, 1, 1);
            t.state(d, 1, RELEASED, 100, 1, 1);
            t.choice(d, 1, 1);
        }));
        all.add(new Sentence(in, "`request`: its number", t -> {
            for (int count : new int[] {0, 1, 30}) {
                t.range(0, count - 1, Checks.INDEX, request -> releasedOf(count, request));
            }
        }));
        all.add(new Sentence(in, "Throws `IndexOutOfBoundsException` if there is no such request", t -> {
            Approvalyard d = withRequests(1);
            t.fails(Checks.INDEX, () -> d.release(-1));
            t.fails(Checks.INDEX, () -> d.release(1));
        }));
        all.add(new Sentence(in, "Throws `IllegalStateException` if it is not RESOLVED, or not covered", t -> {
            Approvalyard d = withRequests(1);
            t.fails(Checks.STATE, () -> d.release(0));
            d.resolve(0);
            t.fails(Checks.STATE, () -> d.release(0));
            d.approve(0, 1);
            d.release(0);
            t.fails(Checks.STATE, () -> d.release(0));
            d.replace(0, 1);
            t.fails(Checks.STATE, () -> d.release(0));
            Approvalyard dear = t.resolvedAt(501);
            for (int person = 1; person < 3; person++) {
                t.fails(Checks.STATE, () -> dear.release(0));
                dear.limit(person, 501);
                dear.approve(0, person);
            }
            dear.replace(0, 1);
            t.fails(Checks.STATE, () -> dear.release(0));
            Approvalyard late = t.resolvedAt(200);
            late.limit(1, 200);
            late.leave(1, 2, 1);
            late.approve(0, 2);
            late.pass(1);
            t.fails(Checks.STATE, () -> late.release(0));
            eachByItself(t);
        }));
    }

    /** How the other requests are does not count. */
    private static void eachByItself(Checks t) {
        Approvalyard d = withRequests(4);
        for (int number = 1; number < 4; number++) {
            d.resolve(number);
        }
        d.approve(1, 1);
        d.approve(3, 1);
        d.release(3);
        t.fails(Checks.STATE, () -> d.release(0));
        t.fails(Checks.STATE, () -> d.release(2));
        t.fails(Checks.STATE, () -> d.release(3));
        d.release(1);
        t.state(d, 1, RELEASED, 100, 1, 1);
    }

    /** Of so many requests that are all resolved and approved, one is released; the answer is how many there are. */
    private static int releasedOf(int count, int request) {
        Approvalyard d = withRequests(count);
        for (int number = 0; number < count; number++) {
            d.resolve(number);
            d.approve(number, 1);
        }
        d.release(request);
        return count;
    }

    private static void ofRequest(List<Sentence> all, String in) {
        all.add(new Sentence(in, "Tells something of a request.", t -> {
            Approvalyard d = withRequests(3);
            d.resolve(1);
            d.approve(1, 1);
            d.approve(1, 7);
            t.state(d, 0, OPEN, NONE, 0, 0);
            t.state(d, 1, RESOLVED, 100, 2, 1);
            t.state(d, 2, OPEN, NONE, 0, 0);
        }));
        all.add(new Sentence(in, "`request`: its number", t -> {
            for (int count : new int[] {0, 1, 30}) {
                t.range(0, count - 1, Checks.INDEX, request -> withRequests(count).ofRequest(request, 3));
            }
        }));
        all.add(new Sentence(in,
                "`what`: 0 OPEN to RELEASED; 1 its cost, NONE if it is OPEN; 2 how many approvals it has that have not"
                + " ended; 3 whether it is covered, 1 or 0", t -> {
                    t.range(0, 3, Checks.ARGUMENT, what -> withRequests(1).ofRequest(0, what));
                    whatOfRequest(t);
                }));
        all.add(new Sentence(in, "Returns the number.", t -> {
            Approvalyard d = t.resolvedAt(700);
            for (int person = 1; person < 8; person++) {
                d.limit(person, 700);
                d.approve(0, person);
                t.state(d, 0, RESOLVED, 700, person, person > 1 ? 1 : 0);
            }
        }));
        all.add(new Sentence(in, "Throws `IndexOutOfBoundsException` if there is no such request", t -> {
            Approvalyard d = withRequests(1);
            for (int what = -1; what <= 4; what++) {
                int w = what;
                t.fails(Checks.INDEX, () -> d.ofRequest(-1, w));
                t.fails(Checks.INDEX, () -> d.ofRequest(1, w));
            }
        }));
        all.add(new Sentence(in, "Throws `IllegalArgumentException` if what is out of range", t -> {
            Approvalyard d = withRequests(1);
            for (int times = 0; times < 2; times++) {
                t.fails(Checks.ARGUMENT, () -> d.ofRequest(0, -1));
                t.fails(Checks.ARGUMENT, () -> d.ofRequest(0, 4));
                d.resolve(0);
            }
        }));
    }

    private static void whatOfRequest(Checks t) {
        Approvalyard d = t.resolvedAt(0);
        t.state(d, 0, RESOLVED, 0, 0, 0);
        d.version(0, 300);
        d.limit(3, 300);
        d.limit(4, 150);
        d.leave(3, 4, 2);
        d.resolve(0);
        t.state(d, 0, RESOLVED, 300, 0, 0);
        d.approve(0, 4);
        t.state(d, 0, RESOLVED, 300, 1, 1);
        d.release(0);
        t.state(d, 0, RELEASED, 300, 1, 1);
        d.pass(2);
        t.state(d, 0, RELEASED, 300, 0, 0);
        d.request(1, 0, 2);
        t.state(d, 1, OPEN, NONE, 0, 0);
        d.resolve(1);
        d.approve(1, 3);
        t.state(d, 1, RESOLVED, 300, 1, 1);
        d.replace(0, 2);
        t.state(d, 1, OPEN, NONE, 0, 0);
        t.state(d, 0, RELEASED, 300, 0, 0);
    }
}
