import java.util.List;

/** The sentences of the document's terms on parts, requests and approvals. */
final class TermSentences {
    private static final int NONE = Approvalyard.NONE, OPEN = Approvalyard.OPEN;
    private static final int RESOLVED = Approvalyard.RESOLVED, RELEASED = Approvalyard.RELEASED;

    private TermSentences() {
    }

    static void add(List<Sentence> all) {
        parts(all);
        requests(all);
        search(all);
        approvals(all);
        approving(all);
        ends(all);
    }

    private static void parts(List<Sentence> all) {
        all.add(new Sentence("PARTS",
                "There are the parts 0 to 7, each with the versions 1 to 3, as they are told, each with a cost.",
                TermSentences::partsAndVersions));
        all.add(new Sentence("PARTS", "A version needs other parts, each in a version from a least to a greatest one.",
                TermSentences::needFromLeastToGreatest));
        all.add(new Sentence("PARTS", "A version can be replaced; it is that for good.",
                TermSentences::replacedForGood));
    }

    private static void partsAndVersions(Checks t) {
        Approvalyard d = new Approvalyard();
        for (int version = 1; version <= 3; version++) {
            for (int part = 0; part < 8; part++) {
                int v = version, p = part;
                t.due(v, () -> d.version(p, 100 * p + v));
            }
        }
        for (int part : new int[] {-1, 8}) {
            t.fails(Checks.INDEX, () -> d.version(part, 0));
        }
        for (int part = 0; part < 8; part++) {
            int p = part;
            t.fails(Checks.STATE, () -> d.version(p, 0));
            t.due(p, () -> d.request(0, p, 1));
            for (int version = 3; version >= 1; version--) {
                int v = version;
                t.due(100 * p + v, () -> d.resolve(p));
                t.due(v, () -> d.chosen(p, p));
                d.replace(p, v);
            }
            t.due(NONE, () -> d.resolve(p));
        }
    }

    private static void needFromLeastToGreatest(Checks t) {
        for (int least = 1; least <= 3; least++) {
            for (int greatest = least; greatest <= 3; greatest++) {
                Approvalyard d = twoParts();
                d.need(0, 1, 1, least, greatest);
                d.request(0, 0, 1);
                for (int version = greatest; version >= least; version--) {
                    t.due(1 + 10 * version, () -> d.resolve(0));
                    t.choice(d, 0, 1, version);
                    d.replace(1, version);
                }
                t.due(NONE, () -> d.resolve(0));
            }
        }
        // Each need of a version has a part and versions of its own.
        Approvalyard d = new Approvalyard();
        d.version(0, 0);
        for (int part = 1; part <= 4; part++) {
            threeVersions(d, part, 10);
            int count = part;
            t.due(count, () -> d.need(0, 1, count, 1, new int[] {2, 1, 3, 2}[count - 1]));
        }
        d.request(0, 0, 1);
        t.due(80, () -> d.resolve(0));
        t.choice(d, 0, 1, 2, 1, 3, 2);
    }

    /** Part 0 has one version, that costs 1; part 1 has three, that cost 10, 20 and 30. */
    private static Approvalyard twoParts() {
        Approvalyard d = new Approvalyard();
        d.version(0, 1);
        threeVersions(d, 1, 10);
        return d;
    }

    private static void threeVersions(Approvalyard d, int part, int cost) {
        for (int version = 1; version <= 3; version++) {
            d.version(part, cost * version);
        }
    }

    private static void replacedForGood(Checks t) {
        Approvalyard d = new Approvalyard();
        d.version(3, 5);
        d.version(3, 6);
        d.request(0, 3, 1);
        d.replace(3, 2);
        t.due(5, () -> d.resolve(0));
        d.pass(60);
        d.version(3, 7);
        d.replace(3, 3);
        t.due(5, () -> d.resolve(0));
        d.need(3, 2, 4, 1, 1);
        d.replace(3, 1);
        t.due(NONE, () -> d.resolve(0));
        for (int version = 1; version <= 3; version++) {
            int v = version;
            t.fails(Checks.STATE, () -> d.replace(3, v));
        }
    }

    private static void requests(List<Sentence> all) {
        all.add(new Sentence("REQUESTS", "Requests are numbered from 0, at most 30.", t -> {
            Approvalyard d = new Approvalyard();
            d.version(7, 9);
            for (int number = 0; number < 30; number++) {
                int n = number;
                t.fails(Checks.INDEX, () -> d.ofRequest(n, 0));
                t.due(n, () -> d.request(7, 7, 1));
            }
            t.fails(Checks.STATE, () -> d.request(7, 7, 1));
            t.fails(Checks.INDEX, () -> d.ofRequest(30, 0));
            t.due(9, () -> d.resolve(29));
            t.due(6, () -> d.approve(29, 6));
            t.state(d, 29, RESOLVED, 9, 1, 1);
            t.choice(d, 29, NONE, NONE, NONE, NONE, NONE, NONE, NONE, 1);
            t.state(d, 28, OPEN, NONE, 0, 0);
        }));
        all.add(new Sentence("REQUESTS",
                "A request is of a person, 0 to 7, for a part, in a version from a least one on.",
                TermSentences::personPartLeast));
        all.add(new Sentence("REQUESTS", "The first choice that holds is taken.", t -> {
            // The versions 2 and 3, and 1 and 3, hold as well, and would cost more, and less.
            Approvalyard d = new Approvalyard();
            d.version(0, 10);
            d.version(0, 900);
            d.version(0, 100);
            threeVersions(d, 1, 1);
            d.need(0, 3, 1, 1, 1);
            d.need(0, 2, 1, 3, 3);
            d.need(0, 1, 1, 3, 3);
            d.request(0, 0, 1);
            t.due(101, () -> d.resolve(0));
            t.choice(d, 0, 3, 1);
        }));
        all.add(new Sentence("REQUESTS", "If there is none, it stays as it was.", TermSentences::staysWithoutChoice));
        all.add(new Sentence("REQUESTS",
                "A request is OPEN at first, and RESOLVED then, without approvals, whatever it was, but RELEASED;"
                + " its cost is that of all versions chosen, together.", TermSentences::openThenResolved));
    }

    private static void personPartLeast(Checks t) {
        eachOfThirty(t);
        for (int person = 0; person < 8; person++) {
            Approvalyard d = new Approvalyard();
            d.version(person, 100);
            d.request(person, person, 1);
            t.due(100, () -> d.resolve(0));
            for (int other = 0; other < 8; other++) {
                int p = other;
                if (p == person) {
                    t.fails(Checks.STATE, () -> d.approve(0, p));
                } else {
                    t.due(p, () -> d.approve(0, p));
                }
            }
        }
        for (int least = 1; least <= 3; least++) {
            Approvalyard d = new Approvalyard();
            threeVersions(d, 5, 1);
            d.request(0, 5, least);
            for (int version = 3; version >= least; version--) {
                int v = version;
                t.due(v, () -> d.resolve(0));
                d.replace(5, v);
            }
            t.due(NONE, () -> d.resolve(0));
        }
    }

    /** A request is of a person, for a part and from a version of its own, whatever its number is. */
    private static void eachOfThirty(Checks t) {
        Approvalyard d = new Approvalyard();
        for (int part = 0; part < 8; part++) {
            threeVersions(d, part, 1);
        }
        for (int number = 0; number < 30; number++) {
            int n = number, person = n % 8, part = (n + 4) % 8;
            d.request(person, part, 1 + n % 3);
            t.due(3, () -> d.resolve(n));
            t.due(3, () -> d.chosen(n, part));
            t.fails(Checks.STATE, () -> d.approve(n, person));
            t.due(part, () -> d.approve(n, part));
        }
        for (int version = 3; version > 1; version--) {
            for (int part = 0; part < 8; part++) {
                d.replace(part, version);
            }
            for (int number = 0; number < 30; number++) {
                int n = number, left = version - 1;
                t.due(1 + n % 3 <= left ? left : NONE, () -> d.resolve(n));
            }
        }
    }

    private static void staysWithoutChoice(Checks t) {
        Approvalyard d = new Approvalyard();
        d.request(0, 0, 1);
        t.due(NONE, () -> d.resolve(0));
        t.state(d, 0, OPEN, NONE, 0, 0);
        t.choice(d, 0);
        d.version(0, 30);
        d.version(1, 40);
        d.need(0, 1, 1, 1, 1);
        d.resolve(0);
        d.approve(0, 1);
        d.approve(0, 2);
        d.need(0, 1, 2, 1, 1);
        t.due(NONE, () -> d.resolve(0));
        t.state(d, 0, RESOLVED, 70, 2, 1);
        t.choice(d, 0, 1, 1);
        t.due(70.0f / 100.0f, () -> d.strain(0));
        t.due(2, () -> d.replace(1, 1));
        t.due(NONE, () -> d.resolve(0));
        t.state(d, 0, OPEN, NONE, 0, 0);
    }

    private static void openThenResolved(Checks t) {
        Approvalyard d = new Approvalyard();
        for (int part = 0; part < 8; part++) {
            d.version(part, part == 7 ? 0 : 1000);
            d.need(part, 1, (part + 1) % 8, 1, 1);
            d.need(part, 1, (part + 1) % 8, 1, 1);
        }
        d.request(0, 0, 1);
        t.state(d, 0, OPEN, NONE, 0, 0);
        // Each cost counts once, though most parts are needed twice.
        t.due(7000, () -> d.resolve(0));
        t.state(d, 0, RESOLVED, 7000, 0, 0);
        d.limit(1, 7000);
        d.limit(2, 7000);
        d.limit(3, 3500);
        d.leave(2, 3, 9);
        d.approve(0, 1);
        d.approve(0, 3);
        t.state(d, 0, RESOLVED, 7000, 2, 1);
        t.due(7000, () -> d.resolve(0));
        t.state(d, 0, RESOLVED, 7000, 0, 0);
        t.due(1, () -> d.approve(0, 1));
        t.due(2, () -> d.approve(0, 3));
        d.release(0);
        t.fails(Checks.STATE, () -> d.resolve(0));
        t.state(d, 0, RELEASED, 7000, 2, 1);
        // One that is OPEN again is resolved again, to what there is by then.
        d.version(7, 400);
        d.request(0, 7, 1);
        t.due(400, () -> d.resolve(1));
        d.replace(7, 2);
        t.state(d, 1, OPEN, NONE, 0, 0);
        t.due(7000, () -> d.resolve(1));
        t.state(d, 1, RESOLVED, 7000, 0, 0);
    }

    private static void search(List<Sentence> all) {
        all.add(new Sentence("REQUESTS",
                "To resolve it is to choose a version for the part, and for each part that is needed by one that is"
                + " chosen, of those that are not replaced, so that each is as all that need it want it, and the"
                + " request.", t -> {
                    onlyWhatIsNeeded(t);
                    notReplaced(t);
                    asAllWantIt(t);
                    asTheRequestWantsIt(t);
                }));
        all.add(new Sentence("REQUESTS",
                "The choice is made by search: of the parts that have to be chosen, the one that came to be needed"
                + " first (the needs of a version in the order in which they were told), its greatest version first,"
                + " then the next lower one, back to the last one that can be another one, if there is none.", t -> {
                    neededFirst(t);
                    needsAsTold(t);
                    greatestFirst(t);
                    backToTheLast(t);
                }));
    }

    private static void onlyWhatIsNeeded(Checks t) {
        Approvalyard d = new Approvalyard();
        for (int part = 0; part < 8; part++) {
            d.version(part, 1);
            d.version(part, 1);
        }
        for (int part = 0; part < 7; part++) {
            d.need(part, 2, part + 1, 2, 2);
        }
        for (int part = 0; part < 8; part++) {
            int p = part;
            d.request(0, p, 1);
            t.due(8 - p, () -> d.resolve(p));
            for (int other = 0; other < 8; other++) {
                int o = other;
                t.due(o < p ? NONE : 2, () -> d.chosen(p, o));
            }
        }
        neededInARing(t);
        // What a version needs that is not chosen is not chosen.
        d.replace(4, 2);
        d.version(0, 1);
        d.need(0, 3, 6, 1, 1);
        t.due(2, () -> d.resolve(0));
        t.choice(d, 0, 3, NONE, NONE, NONE, NONE, NONE, 1);
    }

    /** All parts are needed, and that of the request as well, which is chosen already. */
    private static void neededInARing(Checks t) {
        Approvalyard d = new Approvalyard();
        for (int part = 0; part < 8; part++) {
            d.version(part, 1);
        }
        for (int part = 0; part < 7; part++) {
            d.need(part, 1, 0 < part ? 0 : 1, 1, 1);
            d.need(part, 1, part + 1, 1, 1);
        }
        d.request(0, 0, 1);
        t.due(8, () -> d.resolve(0));
        t.choice(d, 0, 1, 1, 1, 1, 1, 1, 1, 1);
    }

    private static void notReplaced(Checks t) {
        Approvalyard d = twoParts();
        d.version(0, 2);
        d.need(0, 2, 1, 1, 3);
        d.request(0, 0, 1);
        d.replace(1, 3);
        d.replace(1, 1);
        t.due(22, () -> d.resolve(0));
        t.choice(d, 0, 2, 2);
        d.replace(1, 2);
        t.due(1, () -> d.resolve(0));
        t.choice(d, 0, 1);
        d.replace(0, 1);
        t.due(NONE, () -> d.resolve(0));
        // Part 2 has no version at all.
        d.version(0, 3);
        d.need(0, 3, 2, 1, 3);
        t.due(NONE, () -> d.resolve(0));
    }

    private static void asAllWantIt(Checks t) {
        Approvalyard d = twoParts();
        d.version(2, 100);
        d.need(0, 1, 1, 1, 2);
        d.need(0, 1, 1, 2, 3);
        d.request(0, 0, 1);
        t.due(21, () -> d.resolve(0));
        d.need(0, 1, 2, 1, 1);
        t.due(121, () -> d.resolve(0));
        d.need(2, 1, 1, 3, 3);
        t.due(NONE, () -> d.resolve(0));
        // What a chosen part wants of one that was chosen before it counts as well.
        d.version(2, 200);
        d.need(2, 2, 1, 1, 1);
        d.version(0, 2);
        d.need(0, 2, 1, 1, 3);
        d.need(0, 2, 2, 1, 2);
        t.due(2 + 30 + 100, () -> d.resolve(0));
        t.choice(d, 0, 2, 3, 1);
        d.replace(2, 1);
        t.due(2 + 10 + 200, () -> d.resolve(0));
        t.choice(d, 0, 2, 1, 2);
    }

    private static void asTheRequestWantsIt(Checks t) {
        Approvalyard d = new Approvalyard();
        threeVersions(d, 0, 1);
        d.version(1, 100);
        for (int version = 1; version <= 3; version++) {
            d.need(0, version, 1, 1, 1);
            d.request(0, 0, version);
        }
        d.need(1, 1, 0, 1, 2);
        t.due(102, () -> d.resolve(0));
        t.due(102, () -> d.resolve(1));
        t.due(NONE, () -> d.resolve(2));
        d.replace(0, 2);
        t.due(101, () -> d.resolve(0));
        t.due(NONE, () -> d.resolve(1));
        // For part 1 the request's least version of part 0 does not count.
        d.request(0, 1, 1);
        t.due(101, () -> d.resolve(3));
    }

    /** Of two parts whose greatest versions exclude each other, the one that was needed first has it. */
    private static void neededFirst(Checks t) {
        Approvalyard d = Checks.partsOfTwo(4);
        d.need(0, 2, 1, 2, 2);
        d.need(0, 2, 2, 1, 2);
        d.need(1, 2, 3, 1, 2);
        d.need(2, 2, 3, 1, 1);
        d.request(0, 0, 2);
        d.resolve(0);
        // Part 2 was needed by part 0, part 3 only by part 1, which is chosen before part 2.
        t.choice(d, 0, 2, 2, 2, 1);
        Approvalyard back = Checks.partsOfTwo(4);
        // Version 2 of part 0 fails, so that it needed part 2 first does not count for version 1.
        back.need(0, 2, 2, 1, 2);
        back.need(0, 2, 1, 1, 2);
        back.need(0, 2, 4, 1, 1);
        back.need(0, 1, 1, 1, 2);
        back.need(0, 1, 2, 1, 2);
        back.need(1, 2, 2, 1, 1);
        back.request(0, 0, 1);
        back.resolve(0);
        t.choice(back, 0, 1, 2, 1);
    }

    private static void needsAsTold(Checks t) {
        for (int first = 1; first <= 2; first++) {
            Approvalyard d = Checks.partsOfTwo(3);
            d.need(0, 2, first, 1, 2);
            d.need(0, 2, 3 - first, 1, 2);
            d.need(1, 2, 2, 1, 1);
            d.request(0, 0, 2);
            d.resolve(0);
            t.choice(d, 0, 2, first == 1 ? 2 : 1, first == 1 ? 1 : 2);
        }
    }

    private static void greatestFirst(Checks t) {
        Approvalyard d = twoParts();
        d.need(0, 1, 1, 1, 3);
        d.request(0, 0, 1);
        t.due(31, () -> d.resolve(0));
        d.need(1, 3, 2, 1, 1);
        t.due(21, () -> d.resolve(0));
        d.need(1, 2, 2, 1, 1);
        t.due(11, () -> d.resolve(0));
    }

    /** What was chosen last is changed first, though what was chosen before it could be another one too. */
    private static void backToTheLast(Checks t) {
        Approvalyard d = new Approvalyard();
        for (int part = 0; part < 3; part++) {
            threeVersions(d, part, 0);
        }
        d.version(3, 0);
        d.need(0, 3, 1, 1, 3);
        d.need(0, 3, 2, 1, 3);
        d.need(0, 3, 3, 1, 1);
        d.need(1, 3, 3, 1, 2);
        d.need(2, 3, 4, 1, 1);
        d.need(2, 2, 1, 1, 2);
        d.request(0, 0, 1);
        d.resolve(0);
        t.choice(d, 0, 3, 3, 1, 1);
        d.replace(2, 1);
        d.resolve(0);
        t.choice(d, 0, 3, 2, 2, 1);
        d.replace(1, 2);
        d.replace(1, 1);
        d.resolve(0);
        t.choice(d, 0, 2);
    }

    private static void approvals(List<Sentence> all) {
        all.add(new Sentence("APPROVALS",
                "A person has a limit, 100 at first, and can be on leave, up to a day, not included, with a delegate.",
                TermSentences::limitAndLeave));
        all.add(new Sentence("APPROVALS", "Who is on leave cannot approve.", t -> {
            Approvalyard d = t.resolvedAt(150);
            d.limit(1, 150);
            d.limit(2, 150);
            d.limit(3, 100);
            d.leave(1, 3, 5);
            d.leave(2, 1, 5);
            t.fails(Checks.STATE, () -> d.approve(0, 1));
            t.due(1, () -> d.approve(0, 3));
            d.resolve(0);
            d.leave(3, 4, 1);
            t.fails(Checks.STATE, () -> d.approve(0, 3));
            t.fails(Checks.STATE, () -> d.approve(0, 4));
        }));
        all.add(new Sentence("APPROVALS",
                "A request is covered, if it has one approval that has not ended, or two of unlike people, if its"
                + " cost is above 500.", TermSentences::covered));
        all.add(new Sentence("APPROVALS", "It can be RELEASED then.", t -> {
            for (int cost : new int[] {0, 500, 501, 1000}) {
                Approvalyard d = t.resolvedAt(cost);
                d.limit(1, cost);
                d.limit(2, cost);
                t.fails(Checks.STATE, () -> d.release(0));
                d.approve(0, 1);
                if (cost > 500) {
                    t.fails(Checks.STATE, () -> d.release(0));
                    d.approve(0, 2);
                }
                d.release(0);
                t.state(d, 0, RELEASED, cost, cost > 500 ? 2 : 1, 1);
            }
        }));
    }

    private static void limitAndLeave(Checks t) {
        for (int person = 0; person < 8; person++) {
            int p = person;
            t.due(100, () -> new Approvalyard().limit(p, 7));
        }
        for (int person = 1; person < 8; person++) {
            int p = person, delegate = p % 7 + 1;
            Approvalyard d = t.resolvedAt(100);
            t.due(p, () -> d.approve(0, p));
            d.version(0, 101);
            d.resolve(0);
            t.fails(Checks.STATE, () -> d.approve(0, p));
            t.due(100, () -> d.limit(p, 101));
            d.pass(3);
            t.due(8, () -> d.leave(p, delegate, 5));
            t.fails(Checks.STATE, () -> d.approve(0, p));
            d.pass(4);
            t.fails(Checks.STATE, () -> d.approve(0, p));
            t.due(p, () -> d.approve(0, delegate));
            d.pass(1);
            t.fails(Checks.STATE, () -> d.approve(0, delegate));
            t.due(p, () -> d.approve(0, p));
        }
    }

    private static void covered(Checks t) {
        for (int cost : new int[] {0, 1, 499, 500, 501, 502, 1000}) {
            Approvalyard d = t.resolvedAt(cost);
            int two = cost > 500 ? 1 : 0;
            for (int person = 1; person < 4; person++) {
                d.limit(person, cost);
                t.state(d, 0, RESOLVED, cost, person - 1, person - 1 > two ? 1 : 0);
                d.approve(0, person);
            }
            t.state(d, 0, RESOLVED, cost, 3, 1);
        }
        // All who can approve a request of person 7 count alike, the first one as the others.
        for (int first = 0; first < 7; first++) {
            Approvalyard d = new Approvalyard();
            d.version(0, 600);
            d.request(7, 0, 1);
            d.resolve(0);
            for (int count = 1; count <= 2; count++) {
                int person = (first + count) % 7;
                d.limit(person, 600);
                t.due(person, () -> d.approve(0, person));
                t.state(d, 0, RESOLVED, 600, count, count - 1);
            }
        }
        ofTheRequest(t);
        // Two that one person has given, one of which has ended, are no two of unlike people.
        Approvalyard d = t.resolvedAt(600);
        d.limit(1, 600);
        d.limit(2, 300);
        d.leave(1, 2, 1);
        t.due(1, () -> d.approve(0, 2));
        t.state(d, 0, RESOLVED, 600, 1, 0);
        d.pass(1);
        t.state(d, 0, RESOLVED, 600, 0, 0);
        d.leave(1, 2, 1);
        t.due(1, () -> d.approve(0, 2));
        t.state(d, 0, RESOLVED, 600, 1, 0);
        d.pass(1);
        t.due(1, () -> d.approve(0, 1));
        t.state(d, 0, RESOLVED, 600, 1, 0);
        unlikePeople(t);
    }

    /** Those of other requests do not count, whoever has given them, and do not end when one is resolved again. */
    private static void ofTheRequest(Checks t) {
        for (int asker = 0; asker < 8; asker++) {
            Approvalyard d = new Approvalyard();
            d.version(0, 100);
            for (int number = 0; number < 3; number++) {
                d.request(asker, 0, 1);
                d.resolve(number);
            }
            for (int person = 0; person < 8; person++) {
                if (person != asker) {
                    d.approve(1, person);
                }
            }
            for (int times = 0; times < 2; times++) {
                t.state(d, 0, RESOLVED, 100, 0, 0);
                t.state(d, 1, RESOLVED, 100, 7, 1);
                t.state(d, 2, RESOLVED, 100, 0, 0);
                d.resolve(0);
                d.resolve(2);
            }
        }
    }

    /** An approval is of who gives it, as that of a delegate is, so two for one on leave are of unlike people. */
    private static void unlikePeople(Checks t) {
        Approvalyard d = t.resolvedAt(600);
        d.limit(1, 600);
        d.limit(2, 300);
        d.limit(3, 300);
        d.leave(1, 2, 9);
        t.due(1, () -> d.approve(0, 2));
        t.state(d, 0, RESOLVED, 600, 1, 0);
        d.leave(1, 3, 5);
        t.due(1, () -> d.approve(0, 3));
        t.state(d, 0, RESOLVED, 600, 2, 1);
        d.pass(5);
        t.state(d, 0, RESOLVED, 600, 1, 0);
        t.due(1, () -> d.approve(0, 1));
        t.state(d, 0, RESOLVED, 600, 2, 1);
        Approvalyard own = t.resolvedAt(600);
        own.limit(1, 600);
        own.limit(2, 300);
        t.due(1, () -> own.approve(0, 1));
        own.leave(1, 2, 9);
        t.due(1, () -> own.approve(0, 2));
        t.state(own, 0, RESOLVED, 600, 2, 1);
        own.release(0);
    }

    private static void approving(List<Sentence> all) {
        all.add(new Sentence("APPROVALS",
                "To approve is done by a person, not that of the request, whose limit is at least the cost, or who is"
                + " the delegate of one on leave, who may be that of the request, whose limit is at least the cost, if"
                + " the own limit is at least half of it (the cost is at most twice the own limit).", t -> {
                    byOwnLimit(t);
                    byLimitOfOther(t);
                    byHalfOfCost(t);
                    delegateOfOneOnLeave(t);
                    onLeaveIsThatOfRequest(t);
                }));
    }

    private static void byOwnLimit(Checks t) {
        for (int cost : new int[] {0, 1, 500, 501, 1000}) {
            Approvalyard d = t.resolvedAt(cost);
            d.limit(0, 10000);
            t.fails(Checks.STATE, () -> d.approve(0, 0));
            if (cost > 0) {
                d.limit(1, cost - 1);
                t.fails(Checks.STATE, () -> d.approve(0, 1));
            }
            d.limit(1, cost);
            t.due(1, () -> d.approve(0, 1));
            d.limit(2, 10000);
            t.due(2, () -> d.approve(0, 2));
        }
        byItsOwnCost(t);
    }

    /** The cost of another request does not count. */
    private static void byItsOwnCost(Checks t) {
        Approvalyard d = new Approvalyard();
        for (int number = 0; number < 3; number++) {
            d.version(number, 150 + 50 * number);
            d.request(0, number, 1);
            d.resolve(number);
        }
        d.limit(1, 200);
        d.limit(2, 125);
        d.leave(3, 2, 9);
        d.limit(3, 1000);
        t.due(1, () -> d.approve(0, 1));
        t.due(1, () -> d.approve(1, 1));
        t.fails(Checks.STATE, () -> d.approve(2, 1));
        d.leave(3, 1, 9);
        t.due(3, () -> d.approve(2, 1));
        d.limit(2, 99);
        d.leave(3, 2, 9);
        t.due(3, () -> d.approve(0, 2));
        t.fails(Checks.STATE, () -> d.approve(1, 2));
    }

    private static void byLimitOfOther(Checks t) {
        Approvalyard d = t.resolvedAt(150);
        d.leave(1, 2, 9);
        d.limit(1, 149);
        t.fails(Checks.STATE, () -> d.approve(0, 2));
        d.limit(1, 150);
        t.due(1, () -> d.approve(0, 2));
        Approvalyard most = t.resolvedAt(150);
        most.leave(7, 2, 9);
        most.limit(7, 10000);
        t.due(7, () -> most.approve(0, 2));
        for (int whom = 0; whom < 8; whom++) {
            int w = whom, delegate = w % 7 + 1;
            Approvalyard cheap = t.resolvedAt(2);
            cheap.limit(delegate, 1);
            cheap.leave(w, delegate, 9);
            t.due(w, () -> cheap.approve(0, delegate));
        }
    }

    private static void byHalfOfCost(Checks t) {
        for (int cost : new int[] {1, 2, 199, 200, 201, 999, 1000}) {
            Approvalyard d = t.resolvedAt(cost);
            int half = (cost + 1) / 2;
            d.limit(1, cost);
            d.leave(1, 2, 9);
            d.limit(2, half - 1);
            t.fails(Checks.STATE, () -> d.approve(0, 2));
            d.limit(2, half);
            t.due(half == cost ? 2 : 1, () -> d.approve(0, 2));
        }
    }

    private static void delegateOfOneOnLeave(Checks t) {
        Approvalyard d = t.resolvedAt(150);
        d.limit(1, 150);
        t.fails(Checks.STATE, () -> d.approve(0, 2));
        d.leave(1, 2, 2);
        t.fails(Checks.STATE, () -> d.approve(0, 3));
        // A delegate of a delegate is none.
        d.leave(2, 4, 9);
        t.fails(Checks.STATE, () -> d.approve(0, 4));
        d.leave(1, 3, 2);
        d.pass(1);
        t.due(1, () -> d.approve(0, 3));
        d.resolve(0);
        d.pass(1);
        t.fails(Checks.STATE, () -> d.approve(0, 3));
    }

    private static void onLeaveIsThatOfRequest(Checks t) {
        Approvalyard d = t.resolvedAt(150);
        d.limit(0, 150);
        d.limit(7, 150);
        d.leave(7, 0, 9);
        t.fails(Checks.STATE, () -> d.approve(0, 0));
        d.leave(0, 7, 9);
        t.fails(Checks.STATE, () -> d.approve(0, 7));
        d.leave(0, 6, 9);
        t.due(0, () -> d.approve(0, 6));
    }

    private static void ends(List<Sentence> all) {
        all.add(new Sentence("APPROVALS",
                "An approval ends when a version that was chosen for the request is replaced; the request is OPEN"
                + " then, and its choice is gone, but one that is RELEASED stays so, with its choice, though it is not"
                + " covered any more.", TermSentences::endsByReplacing));
        all.add(new Sentence("APPROVALS",
                "An approval of a delegate ends as well, when the day comes on which the other one is back, as that"
                + " was told when it was done; the request stays as it is.", TermSentences::endsByDay));
        all.add(new Sentence("APPROVALS",
                "The strain of a request is its cost, as float, divided by the greatest limit of those who could"
                + " approve it now by their own limit, if they had not and it was not RELEASED, as float; 0.0f if that"
                + " limit is 0.", TermSentences::strain));
    }

    private static void endsByReplacing(Checks t) {
        Approvalyard d = new Approvalyard();
        for (int part = 0; part < 2; part++) {
            d.version(part, 10);
            d.version(part, 20);
        }
        d.need(0, 2, 1, 2, 2);
        for (int number = 0; number < 3; number++) {
            d.request(0, 0, 1);
            d.resolve(number);
            d.approve(number, 1);
            d.approve(number, 2);
        }
        d.request(0, 1, 1);
        d.release(1);
        // Neither a version of these parts that is not chosen, nor that of a request that is still open, counts.
        d.replace(0, 1);
        d.replace(1, 1);
        t.state(d, 0, RESOLVED, 40, 2, 1);
        t.state(d, 1, RELEASED, 40, 2, 1);
        t.due(6, () -> d.replace(1, 2));
        for (int number = 0; number < 3; number += 2) {
            t.state(d, number, OPEN, NONE, 0, 0);
            t.choice(d, number);
        }
        t.state(d, 1, RELEASED, 40, 0, 0);
        t.choice(d, 1, 2, 2);
        t.state(d, 3, OPEN, NONE, 0, 0);
        t.fails(Checks.STATE, () -> d.approve(1, 3));
        // An approval by each of the others ends.
        d.version(0, 5);
        d.request(7, 0, 3);
        d.resolve(4);
        for (int person = 0; person < 7; person++) {
            d.approve(4, person);
        }
        t.due(7, () -> d.replace(0, 3));
        t.state(d, 4, OPEN, NONE, 0, 0);
        // One that nobody has approved is open then, too.
        d.version(1, 30);
        t.due(30, () -> d.resolve(3));
        t.due(0, () -> d.replace(1, 3));
        t.state(d, 3, OPEN, NONE, 0, 0);
        t.choice(d, 3);
    }

    private static void endsByDay(Checks t) {
        Approvalyard d = t.resolvedAt(150);
        d.limit(1, 150);
        d.limit(4, 150);
        d.pass(7);
        d.leave(1, 2, 60);
        t.due(1, () -> d.approve(0, 2));
        // Neither a leave in place of it nor a limit changes the day that was told.
        d.leave(1, 3, 1);
        d.limit(1, 0);
        d.limit(2, 0);
        t.due(4, () -> d.approve(0, 4));
        d.pass(59);
        t.state(d, 0, RESOLVED, 150, 2, 1);
        d.pass(1);
        t.state(d, 0, RESOLVED, 150, 1, 1);
        d.pass(60);
        t.state(d, 0, RESOLVED, 150, 1, 1);
        t.choice(d, 0, 1);
        Approvalyard alone = t.resolvedAt(150);
        alone.limit(1, 150);
        alone.leave(1, 2, 1);
        alone.approve(0, 2);
        alone.leave(1, 2, 60);
        alone.pass(1);
        t.state(alone, 0, RESOLVED, 150, 0, 0);
        t.choice(alone, 0, 1);
        t.fails(Checks.STATE, () -> alone.release(0));
        t.due(1, () -> alone.approve(0, 2));
        alone.release(0);
        alone.pass(60);
        t.state(alone, 0, RELEASED, 150, 0, 0);
        t.choice(alone, 0, 1);
        // One by the own limit ends on no day.
        Approvalyard own = t.resolvedAt(100);
        own.approve(0, 1);
        for (int times = 0; times < 500; times++) {
            own.pass(60);
        }
        t.state(own, 0, RESOLVED, 100, 1, 1);
    }

    private static void strain(Checks t) {
        Approvalyard d = t.resolvedAt(70);
        t.due(70.0f / 100.0f, () -> d.strain(0));
        d.limit(0, 10000);
        t.due(70.0f / 100.0f, () -> d.strain(0));
        d.request(7, 0, 1);
        d.resolve(1);
        t.due(70.0f / 10000.0f, () -> d.strain(1));
        d.limit(7, 170);
        d.limit(1, 130);
        t.due(70.0f / 170.0f, () -> d.strain(0));
        d.leave(7, 1, 3);
        t.due(70.0f / 130.0f, () -> d.strain(0));
        d.pass(2);
        t.due(70.0f / 130.0f, () -> d.strain(0));
        d.pass(1);
        t.due(70.0f / 170.0f, () -> d.strain(0));
        d.approve(0, 7);
        t.due(70.0f / 170.0f, () -> d.strain(0));
        d.release(0);
        t.due(70.0f / 170.0f, () -> d.strain(0));
        for (int person = 1; person < 8; person++) {
            d.limit(person, 70);
        }
        t.due(1.0f, () -> d.strain(0));
        for (int person = 1; person < 8; person++) {
            d.limit(person, 69);
        }
        t.due(-1.0f, () -> d.strain(0));
        Approvalyard free = t.resolvedAt(0);
        t.due(0.0f, () -> free.strain(0));
        for (int person = 1; person < 8; person++) {
            free.limit(person, 0);
        }
        t.due(0.0f, () -> free.strain(0));
        t.due(1, () -> free.approve(0, 1));
    }
}
