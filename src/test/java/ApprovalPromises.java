import java.util.List;

/** The sentences of the promises 8 to 10, 12 and 14 to 16: people, days, and what is judged. */
final class ApprovalPromises {
    private static final int NONE = Approvalyard.NONE, RESOLVED = Approvalyard.RESOLVED;

    private ApprovalPromises() {
    }

    static void add(List<Sentence> all) {
        limit(all, "Promise 8");
        leave(all, "Promise 9");
        approve(all, "Promise 10");
        approveRefused(all, "Promise 10");
        pass(all, "Promise 12");
        coveredAnew(all, "Promise 14");
        strain(all, "Promise 15");
        entries(all, "Promise 16");
    }

    /** So many requests of person 0, for part 0 in its one version, that costs 100; all of them are resolved. */
    private static Approvalyard withResolved(int count) {
        Approvalyard d = new Approvalyard();
        d.version(0, 100);
        for (int number = 0; number < count; number++) {
            d.request(0, 0, 1);
            d.resolve(number);
        }
        return d;
    }

    private static void limit(List<Sentence> all, String in) {
        all.add(new Sentence(in, "Sets the limit of a person.", t -> {
            Approvalyard d = t.resolvedAt(1000);
            d.limit(3, 1000);
            d.limit(4, 999);
            t.fails(Checks.STATE, () -> d.approve(0, 4));
            t.fails(Checks.STATE, () -> d.approve(0, 2));
            t.due(3, () -> d.approve(0, 3));
            // What is approved stays so.
            d.limit(3, 0);
            t.state(d, 0, RESOLVED, 1000, 1, 0);
            d.limit(4, 1000);
            t.due(4, () -> d.approve(0, 4));
            t.state(d, 0, RESOLVED, 1000, 2, 1);
        }));
        all.add(new Sentence(in, "`person`: 0 to 7",
                t -> t.range(0, 7, Checks.INDEX, person -> new Approvalyard().limit(person, 0))));
        all.add(new Sentence(in, "`limit`: 0 to 10000", t -> {
            t.range(0, 10000, Checks.ARGUMENT, limit -> new Approvalyard().limit(0, limit));
            for (int limit : new int[] {0, 1, 9999, 10000}) {
                Approvalyard d = t.resolvedAt(0);
                for (int person = 1; person < 8; person++) {
                    d.limit(person, limit);
                    t.due(limit, () -> d.limit(1, limit));
                }
                t.due(0.0f, () -> d.strain(0));
            }
        }));
        all.add(new Sentence(in, "Returns the limit before.", t -> {
            Approvalyard d = new Approvalyard();
            for (int person = 0; person < 8; person++) {
                int p = person;
                t.due(100, () -> d.limit(p, 10000 - p));
            }
            for (int person = 0; person < 8; person++) {
                int p = person;
                t.due(10000 - p, () -> d.limit(p, 0));
                t.due(0, () -> d.limit(p, 0));
            }
        }));
        all.add(new Sentence(in, "Throws `IndexOutOfBoundsException` if there is no such person", t -> {
            Approvalyard d = new Approvalyard();
            for (int limit : new int[] {-1, 0, 10000, 10001}) {
                t.fails(Checks.INDEX, () -> d.limit(-1, limit));
                t.fails(Checks.INDEX, () -> d.limit(8, limit));
            }
        }));
        all.add(new Sentence(in, "Throws `IllegalArgumentException` if limit is out of range", t -> {
            Approvalyard d = new Approvalyard();
            t.fails(Checks.ARGUMENT, () -> d.limit(0, -1));
            t.fails(Checks.ARGUMENT, () -> d.limit(7, 10001));
            t.due(100, () -> d.limit(0, 1));
        }));
    }

    private static void leave(List<Sentence> all, String in) {
        all.add(new Sentence(in,
                "A person goes on leave, in place of a leave before; approvals of delegates stay as they were told.",
                ApprovalPromises::inPlace));
        all.add(new Sentence(in, "`person`: 0 to 7",
                t -> t.range(0, 7, Checks.INDEX, person -> new Approvalyard().leave(person, person == 7 ? 6 : 7, 1))));
        all.add(new Sentence(in, "`delegate`: another one", t -> {
            for (int person = 0; person < 8; person++) {
                int p = person;
                Approvalyard d = new Approvalyard();
                t.fails(Checks.INDEX, () -> d.leave(p, -1, 1));
                t.fails(Checks.INDEX, () -> d.leave(p, 8, 1));
                for (int delegate = 0; delegate < 8; delegate++) {
                    int other = delegate;
                    if (other == p) {
                        t.fails(Checks.ARGUMENT, () -> d.leave(p, other, 1));
                    } else {
                        t.due(1, () -> d.leave(p, other, 1));
                    }
                }
            }
        }));
        all.add(new Sentence(in, "`days`: 1 to 60",
                t -> t.range(1, 60, Checks.ARGUMENT, days -> new Approvalyard().leave(0, 1, days))));
        all.add(new Sentence(in, "Returns the day on which they are back.", t -> {
            Approvalyard d = new Approvalyard();
            t.due(60, () -> d.leave(0, 1, 60));
            t.due(1, () -> d.leave(0, 1, 1));
            d.pass(60);
            t.due(61, () -> d.leave(0, 1, 1));
            t.due(120, () -> d.leave(7, 1, 60));
            t.due(62, () -> d.leave(7, 1, 2));
        }));
        all.add(new Sentence(in, "Throws `IndexOutOfBoundsException` if there is no such person, of either", t -> {
            Approvalyard d = new Approvalyard();
            for (int days = 0; days <= 61; days++) {
                int many = days;
                t.fails(Checks.INDEX, () -> d.leave(-1, 0, many));
                t.fails(Checks.INDEX, () -> d.leave(8, 0, many));
                t.fails(Checks.INDEX, () -> d.leave(0, -1, many));
                t.fails(Checks.INDEX, () -> d.leave(0, 8, many));
                t.fails(Checks.INDEX, () -> d.leave(8, 8, many));
            }
        }));
        all.add(new Sentence(in, "Throws `IllegalArgumentException` if both are one, or days is out of range", t -> {
            Approvalyard d = new Approvalyard();
            t.fails(Checks.ARGUMENT, () -> d.leave(0, 0, 1));
            t.fails(Checks.ARGUMENT, () -> d.leave(7, 7, 60));
            t.fails(Checks.ARGUMENT, () -> d.leave(0, 1, 0));
            t.fails(Checks.ARGUMENT, () -> d.leave(7, 6, 61));
            t.due(60, () -> d.leave(7, 6, 60));
        }));
    }

    private static void inPlace(Checks t) {
        Approvalyard d = t.resolvedAt(150);
        d.limit(1, 150);
        d.leave(1, 2, 10);
        t.due(1, () -> d.approve(0, 2));
        // Another delegate, who is back sooner; what was approved by the first one stays till the day 10.
        t.due(4, () -> d.leave(1, 3, 4));
        t.state(d, 0, RESOLVED, 150, 1, 1);
        t.due(1, () -> d.approve(0, 3));
        t.state(d, 0, RESOLVED, 150, 2, 1);
        d.pass(4);
        t.state(d, 0, RESOLVED, 150, 1, 1);
        t.due(1, () -> d.approve(0, 1));
        t.fails(Checks.STATE, () -> d.approve(0, 3));
        d.pass(5);
        t.state(d, 0, RESOLVED, 150, 2, 1);
        d.pass(1);
        t.state(d, 0, RESOLVED, 150, 1, 1);
        // Who goes on leave keeps what they have approved.
        d.leave(1, 4, 60);
        t.state(d, 0, RESOLVED, 150, 1, 1);
        d.resolve(0);
        t.fails(Checks.STATE, () -> d.approve(0, 2));
        t.due(1, () -> d.approve(0, 4));
        d.leave(1, 2, 60);
        d.resolve(0);
        t.fails(Checks.STATE, () -> d.approve(0, 4));
        t.due(1, () -> d.approve(0, 2));
    }

    private static void approve(List<Sentence> all, String in) {
        all.add(new Sentence(in,
                "Approves a request; by the own limit, if that is enough, otherwise for the first one, by rising"
                + " numbers, for whom it can be done.", t -> {
                    ownLimitFirst(t);
                    firstByRisingNumbers(t);
                }));
        all.add(new Sentence(in, "`request`: its number", t -> {
            for (int count : new int[] {0, 1, 30}) {
                t.range(0, count - 1, Checks.INDEX, request -> withResolved(count).approve(request, 1));
            }
        }));
        all.add(new Sentence(in, "`person`: 0 to 7", t -> t.range(0, 7, Checks.INDEX, person -> {
            Approvalyard d = new Approvalyard();
            d.version(0, 100);
            d.request(person == 7 ? 6 : 7, 0, 1);
            d.resolve(0);
            return d.approve(0, person);
        })));
        all.add(new Sentence(in, "Returns for whom it is done.", t -> {
            for (int whom = 1; whom < 8; whom++) {
                int w = whom, delegate = w % 7 + 1;
                Approvalyard d = t.resolvedAt(101);
                d.limit(w, 101);
                t.due(w, () -> d.approve(0, w));
                d.leave(w, delegate, 1);
                t.due(w, () -> d.approve(0, delegate));
            }
            Approvalyard zero = t.resolvedAt(101);
            zero.limit(0, 101);
            zero.leave(0, 7, 1);
            t.due(0, () -> zero.approve(0, 7));
        }));
    }

    /** By the own limit, though it could be done for one with a lower number: it does not end with their leave. */
    private static void ownLimitFirst(Checks t) {
        Approvalyard d = t.resolvedAt(150);
        d.limit(1, 150);
        d.limit(2, 150);
        d.leave(1, 2, 1);
        t.due(2, () -> d.approve(0, 2));
        d.pass(1);
        t.state(d, 0, RESOLVED, 150, 1, 1);
        d.resolve(0);
        d.limit(2, 149);
        d.leave(1, 2, 1);
        t.due(1, () -> d.approve(0, 2));
        d.pass(1);
        t.state(d, 0, RESOLVED, 150, 0, 0);
    }

    private static void firstByRisingNumbers(Checks t) {
        Approvalyard d = t.resolvedAt(150);
        d.limit(0, 149);
        for (int person = 1; person < 8; person++) {
            if (person != 4) {
                d.limit(person, 140 + 2 * person);
                d.leave(person, 4, person == 6 ? 1 : 10 + person);
            }
        }
        d.leave(0, 4, 60);
        // The limits of 0 to 3 are below 150; 5 is the first for whom it can be done, though 7 has a greater one.
        t.due(5, () -> d.approve(0, 4));
        d.limit(3, 150);
        d.resolve(0);
        t.due(3, () -> d.approve(0, 4));
        d.leave(3, 2, 60);
        d.limit(5, 149);
        d.resolve(0);
        t.due(6, () -> d.approve(0, 4));
        d.pass(1);
        t.state(d, 0, RESOLVED, 150, 0, 0);
        t.due(7, () -> d.approve(0, 4));
        d.pass(15);
        t.state(d, 0, RESOLVED, 150, 1, 1);
        d.pass(1);
        t.state(d, 0, RESOLVED, 150, 0, 0);
        d.limit(0, 150);
        t.due(0, () -> d.approve(0, 4));
    }

    private static void approveRefused(List<Sentence> all, String in) {
        all.add(new Sentence(in, "Throws `IndexOutOfBoundsException` if there is no such request or person", t -> {
            Approvalyard d = withResolved(1);
            for (int times = 0; times < 2; times++) {
                t.fails(Checks.INDEX, () -> d.approve(-1, 1));
                t.fails(Checks.INDEX, () -> d.approve(1, 1));
                t.fails(Checks.INDEX, () -> d.approve(0, -1));
                t.fails(Checks.INDEX, () -> d.approve(0, 8));
                d.replace(0, 1 + times);
                d.version(0, 1);
            }
        }));
        all.add(new Sentence(in,
                "Throws `IllegalStateException` if it is not RESOLVED, the person cannot approve it, or has done so,"
                + " and that has not ended", t -> {
                    notResolved(t);
                    cannot(t);
                    hasDoneSo(t);
                }));
    }

    private static void notResolved(Checks t) {
        Approvalyard d = new Approvalyard();
        d.version(0, 0);
        d.request(0, 0, 1);
        t.fails(Checks.STATE, () -> d.approve(0, 1));
        d.resolve(0);
        t.due(1, () -> d.approve(0, 1));
        d.replace(0, 1);
        t.fails(Checks.STATE, () -> d.approve(0, 2));
        d.version(0, 0);
        d.resolve(0);
        t.due(1, () -> d.approve(0, 1));
        d.release(0);
        t.fails(Checks.STATE, () -> d.approve(0, 2));
        t.fails(Checks.STATE, () -> d.approve(0, 1));
        d.replace(0, 2);
        t.fails(Checks.STATE, () -> d.approve(0, 2));
    }

    private static void cannot(Checks t) {
        Approvalyard d = t.resolvedAt(101);
        d.limit(0, 101);
        for (int person = 0; person < 8; person++) {
            int p = person;
            t.fails(Checks.STATE, () -> d.approve(0, p));
        }
        d.limit(1, 101);
        d.leave(1, 0, 1);
        t.fails(Checks.STATE, () -> d.approve(0, 1));
        t.fails(Checks.STATE, () -> d.approve(0, 0));
        d.leave(1, 2, 1);
        d.limit(2, 50);
        t.fails(Checks.STATE, () -> d.approve(0, 2));
    }

    private static void hasDoneSo(Checks t) {
        Approvalyard d = t.resolvedAt(150);
        d.limit(1, 150);
        d.limit(3, 150);
        d.leave(1, 2, 2);
        t.due(1, () -> d.approve(0, 2));
        t.due(3, () -> d.approve(0, 3));
        t.fails(Checks.STATE, () -> d.approve(0, 2));
        t.fails(Checks.STATE, () -> d.approve(0, 3));
        // Not for another one, nor by the own limit.
        d.leave(3, 2, 60);
        t.fails(Checks.STATE, () -> d.approve(0, 2));
        d.limit(2, 150);
        t.fails(Checks.STATE, () -> d.approve(0, 2));
        d.pass(1);
        t.fails(Checks.STATE, () -> d.approve(0, 2));
        d.pass(1);
        t.due(2, () -> d.approve(0, 2));
        t.fails(Checks.STATE, () -> d.approve(0, 2));
        d.pass(60);
        t.fails(Checks.STATE, () -> d.approve(0, 3));
        d.request(0, 0, 1);
        d.resolve(1);
        t.due(3, () -> d.approve(1, 3));
        d.resolve(0);
        t.due(3, () -> d.approve(0, 3));
    }

    private static void pass(List<Sentence> all, String in) {
        all.add(new Sentence(in, "Lets days go by.", t -> {
            Approvalyard d = t.resolvedAt(100);
            d.leave(1, 2, 60);
            d.pass(59);
            t.fails(Checks.STATE, () -> d.approve(0, 1));
            d.pass(1);
            t.due(1, () -> d.approve(0, 1));
            d.pass(60);
            t.state(d, 0, RESOLVED, 100, 1, 1);
            t.due(121, () -> d.leave(1, 2, 1));
        }));
        all.add(new Sentence(in, "`days`: 1 to 60",
                t -> t.range(1, 60, Checks.ARGUMENT, days -> new Approvalyard().pass(days))));
        all.add(new Sentence(in, "Returns the day.", t -> {
            Approvalyard d = new Approvalyard();
            t.due(1, () -> d.pass(1));
            t.due(3, () -> d.pass(2));
            for (int times = 1; times <= 510; times++) {
                int day = 3 + 60 * times;
                t.due(day, () -> d.pass(60));
            }
        }));
        all.add(new Sentence(in, "Throws `IllegalArgumentException` if days is out of range", t -> {
            Approvalyard d = new Approvalyard();
            t.fails(Checks.ARGUMENT, () -> d.pass(0));
            t.fails(Checks.ARGUMENT, () -> d.pass(61));
            t.fails(Checks.ARGUMENT, () -> d.pass(-1));
            t.due(60, () -> d.pass(60));
        }));
    }

    private static void coveredAnew(List<Sentence> all, String in) {
        all.add(new Sentence(in, "Returns whether a request is covered, judged from the book.", t -> {
            Approvalyard d = withResolved(2);
            d.approve(1, 1);
            d.limit(1, 0);
            int entries = d.entries();
            for (int times = 0; times < 3; times++) {
                t.due(false, () -> d.isCoveredAnew(0));
                t.due(true, () -> d.isCoveredAnew(1));
                t.state(d, 1, RESOLVED, 100, 1, 1);
                t.due(entries, () -> d.entries());
            }
        }));
        all.add(new Sentence(in, "`request`: its number", t -> {
            for (int count : new int[] {0, 1, 30}) {
                t.range(0, count - 1, Checks.INDEX, request -> withResolved(count).isCoveredAnew(request));
            }
        }));
        all.add(new Sentence(in, "Returns whether it is.", t -> {
            for (int cost : new int[] {500, 501}) {
                Approvalyard d = t.resolvedAt(cost);
                t.due(false, () -> d.isCoveredAnew(0));
                for (int person = 1; person < 3; person++) {
                    d.limit(person, cost);
                    d.approve(0, person);
                    boolean isDue = person == 2 || cost == 500;
                    t.due(isDue, () -> d.isCoveredAnew(0));
                }
                d.release(0);
                t.due(true, () -> d.isCoveredAnew(0));
                d.replace(0, 1);
                t.due(false, () -> d.isCoveredAnew(0));
            }
            Approvalyard open = new Approvalyard();
            open.request(0, 0, 1);
            t.due(false, () -> open.isCoveredAnew(0));
            t.due(NONE, () -> open.resolve(0));
            t.due(false, () -> open.isCoveredAnew(0));
        }));
        all.add(new Sentence(in, "Throws `IndexOutOfBoundsException` if there is no such request", t -> {
            t.fails(Checks.INDEX, () -> new Approvalyard().isCoveredAnew(0));
            t.fails(Checks.INDEX, () -> withResolved(1).isCoveredAnew(1));
            t.fails(Checks.INDEX, () -> withResolved(1).isCoveredAnew(-1));
        }));
    }

    private static void strain(List<Sentence> all, String in) {
        all.add(new Sentence(in, "Returns the strain of a request.", t -> {
            Approvalyard d = t.resolvedAt(1);
            d.version(1, 333);
            d.request(3, 1, 1);
            d.resolve(1);
            d.limit(1, 999);
            d.limit(2, 777);
            d.limit(3, 10000);
            t.due(333.0f / 999.0f, () -> d.strain(1));
            t.due(1.0f / 10000.0f, () -> d.strain(0));
            d.leave(1, 4, 9);
            t.due(333.0f / 777.0f, () -> d.strain(1));
        }));
        all.add(new Sentence(in, "`request`: its number", t -> {
            for (int count : new int[] {0, 1, 30}) {
                t.range(0, count - 1, Checks.INDEX, request -> withResolved(count).strain(request));
            }
        }));
        all.add(new Sentence(in,
                "Returns the strain; -1.0f if it is OPEN, or nobody could approve it by their own limit.",
                ApprovalPromises::noStrain));
        all.add(new Sentence(in, "Throws `IndexOutOfBoundsException` if there is no such request", t -> {
            t.fails(Checks.INDEX, () -> new Approvalyard().strain(0));
            t.fails(Checks.INDEX, () -> withResolved(1).strain(1));
            t.fails(Checks.INDEX, () -> withResolved(1).strain(-1));
        }));
    }

    private static void noStrain(Checks t) {
        Approvalyard d = new Approvalyard();
        d.version(0, 101);
        d.request(0, 0, 1);
        d.limit(7, 101);
        t.due(-1.0f, () -> d.strain(0));
        d.resolve(0);
        t.due(1.0f, () -> d.strain(0));
        d.limit(7, 100);
        t.due(-1.0f, () -> d.strain(0));
        d.limit(0, 10000);
        t.due(-1.0f, () -> d.strain(0));
        // A delegate of one on leave could approve it, but not by their own limit.
        d.leave(0, 1, 9);
        t.due(-1.0f, () -> d.strain(0));
        t.due(0, () -> d.approve(0, 1));
        d.limit(7, 101);
        d.leave(7, 1, 1);
        t.due(-1.0f, () -> d.strain(0));
        d.release(0);
        t.due(-1.0f, () -> d.strain(0));
        d.pass(1);
        t.due(1.0f, () -> d.strain(0));
        d.request(0, 0, 1);
        t.due(-1.0f, () -> d.strain(1));
        d.resolve(1);
        t.due(1.0f, () -> d.strain(1));
        d.replace(0, 1);
        t.due(-1.0f, () -> d.strain(1));
        t.due(1.0f, () -> d.strain(0));
        Approvalyard free = t.resolvedAt(0);
        for (int person = 1; person < 8; person++) {
            free.limit(person, 0);
            free.leave(person, 0, 1);
        }
        t.due(-1.0f, () -> free.strain(0));
        free.pass(1);
        t.due(0.0f, () -> free.strain(0));
    }

    private static void entries(List<Sentence> all, String in) {
        all.add(new Sentence(in,
                "Returns how many entries the book has: each call of a method up to pass(), but chosen(), that throws"
                + " nothing, but resolving without a choice.", t -> {
                    eachCallCounts(t);
                    othersDoNotCount(t);
                }));
    }

    private static void eachCallCounts(Checks t) {
        Approvalyard d = new Approvalyard();
        Runnable[] told = {
            () -> d.version(0, 100), () -> d.version(1, 7), () -> d.need(0, 1, 1, 1, 3), () -> d.request(0, 0, 1),
            () -> d.resolve(0), () -> d.resolve(0), () -> d.limit(1, 200), () -> d.limit(1, 200),
            () -> d.leave(2, 3, 1), () -> d.leave(2, 3, 1), () -> d.approve(0, 1), () -> d.release(0),
            () -> d.pass(1), () -> d.replace(1, 1),
        };
        for (int number = 0; number < told.length; number++) {
            int before = number;
            t.due(before, () -> d.entries());
            t.due(before, () -> d.entries());
            told[number].run();
        }
        t.due(told.length, () -> d.entries());
    }

    private static void othersDoNotCount(Checks t) {
        Approvalyard d = withResolved(1);
        d.request(0, 1, 1);
        t.due(4, () -> d.entries());
        t.due(1, () -> d.chosen(0, 0));
        t.due(NONE, () -> d.chosen(0, 1));
        t.due(1.0f, () -> d.strain(0));
        t.state(d, 0, RESOLVED, 100, 0, 0);
        t.due(4, () -> d.entries());
        t.due(NONE, () -> d.resolve(1));
        t.due(4, () -> d.entries());
        t.fails(Checks.STATE, () -> d.release(0));
        t.fails(Checks.STATE, () -> d.approve(0, 0));
        t.fails(Checks.INDEX, () -> d.version(8, 0));
        t.fails(Checks.ARGUMENT, () -> d.pass(0));
        t.due(4, () -> d.entries());
        d.need(0, 1, 2, 1, 1);
        t.due(NONE, () -> d.resolve(0));
        t.due(5, () -> d.entries());
    }
}
