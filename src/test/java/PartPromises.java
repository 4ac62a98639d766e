import java.util.List;

/** The sentences of the promises 1 to 4: a new object, version, need and replace. */
final class PartPromises {
    private static final int NONE = Approvalyard.NONE;
    private static final int OPEN = Approvalyard.OPEN, RELEASED = Approvalyard.RELEASED;

    private PartPromises() {
    }

    static void add(List<Sentence> all) {
        newObject(all, "Promise 1");
        version(all, "Promise 2");
        need(all, "Promise 3");
        needRefused(all, "Promise 3");
        replace(all, "Promise 4");
        replaceRefused(all, "Promise 4");
    }

    /** Part 0 has so many versions. */
    private static Approvalyard withVersions(int count) {
        Approvalyard d = new Approvalyard();
        for (int version = 1; version <= count; version++) {
            d.version(0, version);
        }
        return d;
    }

    private static void newObject(List<Sentence> all, String in) {
        all.add(new Sentence(in, "No versions, no requests; the day 0.", t -> {
            Approvalyard used = t.resolvedAt(100);
            used.pass(9);
            Approvalyard d = new Approvalyard();
            t.due(0, () -> d.entries());
            for (int number = 0; number < 8; number++) {
                int n = number;
                t.fails(Checks.INDEX, () -> d.replace(n, 1));
                t.fails(Checks.INDEX, () -> d.need(n, 1, (n + 1) % 8, 1, 1));
                t.fails(Checks.INDEX, () -> d.ofRequest(n, 0));
                t.due(5, () -> new Approvalyard().leave(n, (n + 1) % 8, 5));
                t.due(1, () -> new Approvalyard().version(n, 0));
            }
            t.due(1, () -> d.pass(1));
            t.due(0, () -> d.request(0, 0, 1));
            t.due(NONE, () -> d.resolve(0));
        }));
    }

    private static void version(List<Sentence> all, String in) {
        all.add(new Sentence(in, "Tells a version of a part.", t -> {
            Approvalyard d = new Approvalyard();
            d.version(6, 70);
            d.version(6, 71);
            d.request(0, 6, 1);
            t.due(71, () -> d.resolve(0));
            t.due(2, () -> d.chosen(0, 6));
            for (int part = 0; part < 8; part++) {
                int p = part;
                t.fails(Checks.INDEX, () -> d.replace(p, p == 6 ? 3 : 1));
            }
        }));
        all.add(new Sentence(in, "`part`: 0 to 7",
                t -> t.range(0, 7, Checks.INDEX, part -> new Approvalyard().version(part, 0))));
        all.add(new Sentence(in, "`cost`: 0 to 1000", t -> {
            t.range(0, 1000, Checks.ARGUMENT, cost -> new Approvalyard().version(0, cost));
            for (int cost : new int[] {0, 1, 999, 1000}) {
                t.resolvedAt(cost);
            }
        }));
        all.add(new Sentence(in, "Returns the version.", t -> {
            Approvalyard d = new Approvalyard();
            for (int version = 1; version <= 3; version++) {
                for (int part = 7; part >= 0; part--) {
                    int p = part, v = version;
                    t.due(v, () -> d.version(p, 1000 - p));
                }
            }
        }));
        all.add(new Sentence(in, "Throws `IndexOutOfBoundsException` if there is no such part", t -> {
            Approvalyard d = withVersions(3);
            t.fails(Checks.INDEX, () -> d.version(-1, 0));
            t.fails(Checks.INDEX, () -> d.version(8, 1000));
            t.fails(Checks.INDEX, () -> d.version(8, -1));
        }));
        all.add(new Sentence(in, "Throws `IllegalArgumentException` if cost is out of range", t -> {
            Approvalyard d = new Approvalyard();
            t.fails(Checks.ARGUMENT, () -> d.version(0, -1));
            t.fails(Checks.ARGUMENT, () -> d.version(7, 1001));
            t.due(1, () -> d.version(0, 0));
        }));
        all.add(new Sentence(in, "Throws `IllegalStateException` if it has 3", t -> {
            Approvalyard d = withVersions(2);
            d.replace(0, 1);
            t.due(3, () -> d.version(0, 9));
            t.fails(Checks.STATE, () -> d.version(0, 9));
            d.replace(0, 2);
            d.replace(0, 3);
            t.fails(Checks.STATE, () -> d.version(0, 9));
            t.due(1, () -> d.version(1, 9));
        }));
    }

    private static void need(List<Sentence> all, String in) {
        all.add(new Sentence(in, "Tells what a version needs.", t -> {
            // Each version has its own needs, and they count for a choice from then on alone.
            Approvalyard d = withVersions(3);
            d.version(1, 100);
            d.request(0, 0, 1);
            t.due(3, () -> d.resolve(0));
            d.need(0, 3, 1, 1, 1);
            t.choice(d, 0, 3);
            t.due(103, () -> d.resolve(0));
            t.choice(d, 0, 3, 1);
            d.need(0, 3, 7, 1, 3);
            t.due(2, () -> d.resolve(0));
            d.need(0, 2, 1, 2, 2);
            t.due(1, () -> d.resolve(0));
            // What is needed need not be there yet.
            d.version(7, 10);
            t.due(113, () -> d.resolve(0));
        }));
        all.add(new Sentence(in, "`part`: 0 to 7", t -> t.range(0, 7, Checks.INDEX, part -> {
            Approvalyard d = new Approvalyard();
            d.version(Math.max(0, Math.min(7, part)), 0);
            return d.need(part, 1, part == 3 ? 4 : 3, 1, 1);
        })));
        all.add(new Sentence(in, "`version`: a version of it", t -> {
            for (int count = 0; count <= 3; count++) {
                int c = count;
                t.range(1, c, Checks.INDEX, version -> withVersions(c).need(0, version, 1, 1, 1));
            }
            Approvalyard other = withVersions(2);
            other.version(1, 0);
            t.fails(Checks.INDEX, () -> other.need(1, 2, 0, 1, 1));
        }));
        all.add(new Sentence(in, "`other`: another part", PartPromises::anotherPart));
        all.add(new Sentence(in, "`least`: 1 to 3",
                t -> t.range(1, 3, Checks.ARGUMENT, least -> withVersions(1).need(0, 1, 1, least, 3))));
        all.add(new Sentence(in, "`greatest`: least to 3", t -> {
            for (int least = 1; least <= 3; least++) {
                int from = least;
                t.range(from, 3, Checks.ARGUMENT, greatest -> withVersions(1).need(0, 1, 1, from, greatest));
            }
        }));
        all.add(new Sentence(in, "Returns how many needs it has then.", t -> {
            Approvalyard d = withVersions(2);
            for (int count = 1; count <= 4; count++) {
                int c = count;
                t.due(c, () -> d.need(0, 1, 1, 1, 3));
            }
            t.due(1, () -> d.need(0, 2, 1, 1, 1));
            t.due(2, () -> d.need(0, 2, 7, 3, 3));
        }));
    }

    private static void anotherPart(Checks t) {
        for (int part = 0; part < 8; part++) {
            Approvalyard d = new Approvalyard();
            int p = part;
            d.version(p, 0);
            t.fails(Checks.INDEX, () -> d.need(p, 1, -1, 1, 1));
            t.fails(Checks.INDEX, () -> d.need(p, 1, 8, 1, 1));
            t.fails(Checks.ARGUMENT, () -> d.need(p, 1, p, 1, 1));
            for (int other = 0; other < 8; other++) {
                int o = other;
                if (o != p) {
                    Approvalyard one = new Approvalyard();
                    one.version(p, 0);
                    t.due(1, () -> one.need(p, 1, o, 1, 1));
                }
            }
        }
    }

    private static void needRefused(List<Sentence> all, String in) {
        all.add(new Sentence(in, "Throws `IndexOutOfBoundsException` if there is no such part, of either, or version",
                t -> {
                    Approvalyard d = withVersions(1);
                    t.fails(Checks.INDEX, () -> d.need(-1, 1, 0, 1, 1));
                    t.fails(Checks.INDEX, () -> d.need(8, 1, 0, 1, 1));
                    t.fails(Checks.INDEX, () -> d.need(0, 1, -1, 1, 1));
                    t.fails(Checks.INDEX, () -> d.need(0, 1, 8, 1, 1));
                    t.fails(Checks.INDEX, () -> d.need(0, 0, 1, 1, 1));
                    t.fails(Checks.INDEX, () -> d.need(0, 2, 1, 1, 1));
                    t.fails(Checks.INDEX, () -> d.need(1, 1, 0, 1, 1));
                    t.fails(Checks.INDEX, () -> d.need(1, 1, 1, 0, 4));
                    t.fails(Checks.INDEX, () -> d.need(8, 1, 8, 0, 4));
                }));
        all.add(new Sentence(in,
                "Throws `IllegalArgumentException` if both parts are one, or least or greatest is out of range", t -> {
                    Approvalyard d = withVersions(1);
                    t.fails(Checks.ARGUMENT, () -> d.need(0, 1, 0, 1, 1));
                    t.fails(Checks.ARGUMENT, () -> d.need(0, 1, 1, 0, 1));
                    t.fails(Checks.ARGUMENT, () -> d.need(0, 1, 1, 4, 4));
                    t.fails(Checks.ARGUMENT, () -> d.need(0, 1, 1, 2, 1));
                    t.fails(Checks.ARGUMENT, () -> d.need(0, 1, 1, 1, 4));
                    t.due(1, () -> d.need(0, 1, 1, 1, 1));
                }));
        all.add(new Sentence(in, "Throws `IllegalStateException` if it has 4 needs", t -> {
            Approvalyard d = withVersions(3);
            d.replace(0, 2);
            for (int count = 1; count <= 4; count++) {
                d.need(0, 2, count, 1, 1);
            }
            t.fails(Checks.STATE, () -> d.need(0, 2, 5, 1, 1));
            t.fails(Checks.STATE, () -> d.need(0, 2, 1, 1, 1));
            t.due(1, () -> d.need(0, 1, 5, 1, 1));
            t.due(1, () -> d.need(0, 3, 5, 1, 1));
            // The fourth one counts like the others.
            Approvalyard full = withVersions(1);
            for (int part = 1; part <= 4; part++) {
                full.version(part, 10);
                full.need(0, 1, part, 1, 1);
            }
            full.request(0, 0, 1);
            t.due(41, () -> full.resolve(0));
        }));
    }

    private static void replace(List<Sentence> all, String in) {
        all.add(new Sentence(in, "Replaces a version.", t -> {
            Approvalyard d = withVersions(3);
            d.version(1, 10);
            d.version(1, 10);
            d.request(0, 0, 1);
            d.request(0, 1, 2);
            d.replace(0, 2);
            t.due(3, () -> d.resolve(0));
            d.replace(0, 3);
            t.state(d, 0, OPEN, NONE, 0, 0);
            t.due(1, () -> d.resolve(0));
            t.due(10, () -> d.resolve(1));
        }));
        all.add(new Sentence(in, "`part`: 0 to 7", t -> t.range(0, 7, Checks.INDEX, part -> {
            Approvalyard d = new Approvalyard();
            d.version(Math.max(0, Math.min(7, part)), 0);
            return d.replace(part, 1);
        })));
        all.add(new Sentence(in, "`version`: a version of it", t -> {
            for (int count = 0; count <= 3; count++) {
                int c = count;
                t.range(1, c, Checks.INDEX, version -> withVersions(c).replace(0, version));
            }
            Approvalyard other = withVersions(2);
            other.version(1, 0);
            t.fails(Checks.INDEX, () -> other.replace(1, 2));
        }));
        all.add(new Sentence(in, "Returns how many approvals end by that.", PartPromises::howManyEnd));
    }

    /** Those of requests that are released count, but not those that have ended before. */
    private static void howManyEnd(Checks t) {
        Approvalyard d = withVersions(2);
        d.version(1, 1);
        t.due(0, () -> d.replace(0, 2));
        for (int number = 0; number < 30; number++) {
            d.request(0, 0, 1);
            d.resolve(number);
            d.approve(number, 1 + number % 7);
            if (number < 28) {
                d.approve(number, 1 + (number + 1) % 7);
            }
        }
        d.release(0);
        t.due(0, () -> d.replace(1, 1));
        t.due(30 + 28, () -> d.replace(0, 1));
        t.state(d, 0, RELEASED, 1, 0, 0);
        t.state(d, 29, OPEN, NONE, 0, 0);
        d.version(0, 1);
        d.resolve(29);
        for (int person = 1; person < 8; person++) {
            d.approve(29, person);
        }
        t.due(7, () -> d.replace(0, 3));
        endedBefore(t);
    }

    /** The approval of the delegate ends on the day 4. */
    private static void endedBefore(Checks t) {
        for (int day = 2; day <= 6; day++) {
            Approvalyard d = t.resolvedAt(150);
            d.limit(1, 150);
            d.limit(3, 150);
            d.leave(1, 2, 4);
            d.approve(0, 2);
            d.approve(0, 3);
            d.pass(day);
            int ended = day < 4 ? 2 : 1;
            t.due(ended, () -> d.replace(0, 1));
        }
    }

    private static void replaceRefused(List<Sentence> all, String in) {
        all.add(new Sentence(in, "Throws `IndexOutOfBoundsException` if there is no such part or version", t -> {
            Approvalyard d = withVersions(1);
            t.fails(Checks.INDEX, () -> d.replace(-1, 1));
            t.fails(Checks.INDEX, () -> d.replace(8, 1));
            t.fails(Checks.INDEX, () -> d.replace(0, 0));
            t.fails(Checks.INDEX, () -> d.replace(0, 2));
            t.fails(Checks.INDEX, () -> d.replace(1, 1));
            d.replace(0, 1);
            t.fails(Checks.INDEX, () -> d.replace(0, 2));
        }));
        all.add(new Sentence(in, "Throws `IllegalStateException` if it is replaced", t -> {
            Approvalyard d = withVersions(2);
            t.due(0, () -> d.replace(0, 2));
            t.fails(Checks.STATE, () -> d.replace(0, 2));
            t.due(3, () -> d.version(0, 5));
            t.fails(Checks.STATE, () -> d.replace(0, 2));
            t.due(0, () -> d.replace(0, 1));
            t.due(0, () -> d.replace(0, 3));
            t.fails(Checks.STATE, () -> d.replace(0, 3));
        }));
    }
}
