/**
 * An approval desk: versions of parts, requests resolved to versions, approvals, and a book of it all.
 *
 * A call of the face is checked first, then written in the book, and then done by the desk from what the
 * book says. So the book alone is enough to do all of it again on a second desk.
 */
public final class Approvalyard {
    public static final int NONE = -1;
    public static final int OPEN = 0, RESOLVED = 1, RELEASED = 2;

    private static final int PARTS = 8, VERSIONS = 3, NEEDS = 4, PEOPLE = 8, REQUESTS = 30;
    private static final int MOST_COST = 1000, FIRST_LIMIT = 100, MOST_LIMIT = 10000, MOST_DAYS = 60;
    private static final int COST_FOR_TWO = 500;

    /** An object is used for at most so many calls, so the book never has more entries. */
    private static final int MOST_ENTRIES = 512;

    /** The day on which an approval by the own limit ends. */
    private static final int NEVER = 0x7fffffff;

    /** What an entry of the book tells. */
    private static final int VERSION = 1, NEED = 2, REPLACE = 3, REQUEST = 4, RESOLVE = 5, LIMIT = 6, LEAVE = 7,
            APPROVE = 8, RELEASE = 9, PASS = 10;

    private final Book book;
    private final Desk desk;
    private final Desk deskAnew;
    private final Search search;

    public Approvalyard() {
        book = new Book();
        desk = new Desk();
        deskAnew = new Desk();
        search = new Search();
    }

    public int version(int part, int cost)
            throws IndexOutOfBoundsException, IllegalArgumentException, IllegalStateException {
        checkPart(part);
        if (cost < 0 || cost > MOST_COST) {
            throw new IllegalArgumentException("the cost is out of range");
        }
        if (desk.parts.countOf(part) >= VERSIONS) {
            throw new IllegalStateException("the part has all its versions");
        }
        return tell(VERSION, part, cost, 0);
    }

    public int need(int part, int version, int other, int least, int greatest)
            throws IndexOutOfBoundsException, IllegalArgumentException, IllegalStateException {
        checkPart(part);
        checkPart(other);
        checkVersion(part, version);
        if (part == other) {
            throw new IllegalArgumentException("a version needs other parts than its own");
        }
        checkLeast(least);
        if (greatest < least || greatest > VERSIONS) {
            throw new IllegalArgumentException("the greatest version is out of range");
        }
        if (desk.parts.needsOf(part, version) >= NEEDS) {
            throw new IllegalStateException("the version has all its needs");
        }
        return desk.apply(book, book.write(NEED, part, version, other, least, greatest));
    }

    public int replace(int part, int version) throws IndexOutOfBoundsException, IllegalStateException {
        checkPart(part);
        checkVersion(part, version);
        if (desk.parts.isReplaced(part, version)) {
            throw new IllegalStateException("the version is replaced");
        }
        return tell(REPLACE, part, version, 0);
    }

    public int request(int person, int part, int least)
            throws IndexOutOfBoundsException, IllegalArgumentException, IllegalStateException {
        checkPerson(person);
        checkPart(part);
        checkLeast(least);
        if (desk.requests.count() >= REQUESTS) {
            throw new IllegalStateException("there are all the requests that can be");
        }
        return tell(REQUEST, person, part, least);
    }

    public int resolve(int request) throws IndexOutOfBoundsException, IllegalStateException {
        checkRequest(request);
        if (desk.requests.stateOf(request) == RELEASED) {
            throw new IllegalStateException("the request is released");
        }
        int choice = search.find(desk.parts, desk.requests.partOf(request), desk.requests.leastOf(request));
        if (choice == Choice.EMPTY) {
            return NONE;
        }
        // The choice goes into the book with the request: to judge anew needs no search then.
        return tell(RESOLVE, request, choice, 0);
    }

    public int chosen(int request, int part) throws IndexOutOfBoundsException {
        checkRequest(request);
        checkPart(part);
        int version = Choice.versionOf(desk.requests.choiceOf(request), part);
        return version == 0 ? NONE : version;
    }

    public int limit(int person, int limit) throws IndexOutOfBoundsException, IllegalArgumentException {
        checkPerson(person);
        if (limit < 0 || limit > MOST_LIMIT) {
            throw new IllegalArgumentException("the limit is out of range");
        }
        return tell(LIMIT, person, limit, 0);
    }

    public int leave(int person, int delegate, int days)
            throws IndexOutOfBoundsException, IllegalArgumentException {
        checkPerson(person);
        checkPerson(delegate);
        if (person == delegate) {
            throw new IllegalArgumentException("the delegate is another person");
        }
        checkDays(days);
        return tell(LEAVE, person, delegate, days);
    }

    public int approve(int request, int person) throws IndexOutOfBoundsException, IllegalStateException {
        checkRequest(request);
        checkPerson(person);
        if (desk.principalFor(request, person) == NONE) {
            throw new IllegalStateException("the person cannot approve the request now");
        }
        return tell(APPROVE, request, person, 0);
    }

    public void release(int request) throws IndexOutOfBoundsException, IllegalStateException {
        checkRequest(request);
        if (desk.requests.stateOf(request) != RESOLVED || !desk.isCovered(request)) {
            throw new IllegalStateException("the request is not resolved and covered");
        }
        tell(RELEASE, request, 0, 0);
    }

    public int pass(int days) throws IllegalArgumentException {
        checkDays(days);
        return tell(PASS, days, 0, 0);
    }

    public int ofRequest(int request, int what) throws IndexOutOfBoundsException, IllegalArgumentException {
        checkRequest(request);
        switch (what) {
            case 0:
                return desk.requests.stateOf(request);
            case 1:
                return desk.requests.stateOf(request) == OPEN ? NONE : desk.requests.costOf(request);
            case 2:
                return desk.approvalsOf(request);
            case 3:
                return desk.isCovered(request) ? 1 : 0;
            default:
                throw new IllegalArgumentException("there is nothing of that number to tell");
        }
    }

    public boolean isCoveredAnew(int request) throws IndexOutOfBoundsException {
        checkRequest(request);
        int count = book.count();
        deskAnew.clear();
        for (int entry = 0; entry < count; entry++) {
            deskAnew.apply(book, entry);
        }
        return deskAnew.isCovered(request);
    }

    public float strain(int request) throws IndexOutOfBoundsException {
        checkRequest(request);
        if (desk.requests.stateOf(request) == OPEN) {
            return -1.0f;
        }
        int cost = desk.requests.costOf(request);
        int greatest = desk.people.greatestLimit(desk.requests.personOf(request), cost);
        if (greatest == NONE) {
            return -1.0f;
        }
        return greatest == 0 ? 0.0f : (float) cost / (float) greatest;
    }

    public int entries() {
        return book.count();
    }

    private int tell(int kind, int first, int second, int third) {
        return desk.apply(book, book.write(kind, first, second, third, 0, 0));
    }

    private static void checkPart(int part) {
        if (part < 0 || part >= PARTS) {
            throw new IndexOutOfBoundsException("there is no such part");
        }
    }

    private void checkVersion(int part, int version) {
        if (version < 1 || version > desk.parts.countOf(part)) {
            throw new IndexOutOfBoundsException("there is no such version");
        }
    }

    private static void checkPerson(int person) {
        if (person < 0 || person >= PEOPLE) {
            throw new IndexOutOfBoundsException("there is no such person");
        }
    }

    private void checkRequest(int request) {
        if (request < 0 || request >= desk.requests.count()) {
            throw new IndexOutOfBoundsException("there is no such request");
        }
    }

    private static void checkLeast(int least) {
        if (least < 1 || least > VERSIONS) {
            throw new IllegalArgumentException("the least version is out of range");
        }
    }

    private static void checkDays(int days) {
        if (days < 1 || days > MOST_DAYS) {
            throw new IllegalArgumentException("the days are out of range");
        }
    }

    /** A row of numbers that tests each index itself: outside it there are zeros, and nothing is kept. */
    private static final class Row {
        private final int[] cells;

        Row(int length) {
            cells = new int[length < 0 ? 0 : length];
        }

        int at(int index) {
            return index >= 0 && index < cells.length ? cells[index] : 0;
        }

        void put(int index, int number) {
            if (index >= 0 && index < cells.length) {
                cells[index] = number;
            }
        }

        void fill(int number) {
            for (int index = 0; index < cells.length; index++) {
                cells[index] = number;
            }
        }
    }

    /** The chosen versions of all parts in one number, two bits for each part, 0 where none is chosen. */
    private static final class Choice {
        static final int EMPTY = 0;

        private Choice() {
        }

        static int versionOf(int choice, int part) {
            return choice >> 2 * part & 3;
        }

        static int with(int choice, int part, int version) {
            return choice | version << 2 * part;
        }
    }

    /** The parts, their versions, and what these need. */
    private static final class Parts {
        private final Row counts = new Row(PARTS);
        private final Row costs = new Row(PARTS * VERSIONS);
        private final Row replaced = new Row(PARTS * VERSIONS);
        private final Row needCounts = new Row(PARTS * VERSIONS);
        private final Row needParts = new Row(PARTS * VERSIONS * NEEDS);
        private final Row needVersions = new Row(PARTS * VERSIONS * NEEDS);

        void clear() {
            counts.fill(0);
        }

        int countOf(int part) {
            return counts.at(part);
        }

        int addVersion(int part, int cost) {
            int version = counts.at(part) + 1;
            int place = placeOf(part, version);
            counts.put(part, version);
            costs.put(place, cost);
            replaced.put(place, 0);
            needCounts.put(place, 0);
            return version;
        }

        int needsOf(int part, int version) {
            return needCounts.at(placeOf(part, version));
        }

        int addNeed(int part, int version, int other, int least, int greatest) {
            int place = placeOf(part, version);
            int count = needCounts.at(place);
            needParts.put(place * NEEDS + count, other);
            needVersions.put(place * NEEDS + count, versionSet(least, greatest));
            needCounts.put(place, count + 1);
            return count + 1;
        }

        int neededPart(int part, int version, int index) {
            return needParts.at(placeOf(part, version) * NEEDS + index);
        }

        int neededVersions(int part, int version, int index) {
            return needVersions.at(placeOf(part, version) * NEEDS + index);
        }

        void markReplaced(int part, int version) {
            replaced.put(placeOf(part, version), 1);
        }

        boolean isReplaced(int part, int version) {
            return replaced.at(placeOf(part, version)) != 0;
        }

        /** The set of those versions of a part that can be chosen. */
        int current(int part) {
            int set = 0;
            for (int version = 1; version <= counts.at(part) && version <= VERSIONS; version++) {
                if (!isReplaced(part, version)) {
                    set |= versionSet(version, version);
                }
            }
            return set;
        }

        int costOf(int choice) {
            int cost = 0;
            for (int part = 0; part < PARTS; part++) {
                int version = Choice.versionOf(choice, part);
                if (version != 0) {
                    cost += costs.at(placeOf(part, version));
                }
            }
            return cost;
        }

        /** A set of versions has the bit 1 << version for each. */
        static int versionSet(int least, int greatest) {
            return (2 << greatest) - (1 << least);
        }

        private static int placeOf(int part, int version) {
            return part * VERSIONS + version - 1;
        }
    }

    /** The people with their limits and leaves, and the day. */
    private static final class People {
        private final Row limits = new Row(PEOPLE);
        private final Row delegates = new Row(PEOPLE);
        private final Row backs = new Row(PEOPLE);
        private int day;

        void clear() {
            limits.fill(FIRST_LIMIT);
            backs.fill(0);
            day = 0;
        }

        int today() {
            return day;
        }

        int addDays(int days) {
            day += days;
            return day;
        }

        int changeLimit(int person, int limit) {
            int before = limits.at(person);
            limits.put(person, limit);
            return before;
        }

        int sendOnLeave(int person, int delegate, int days) {
            delegates.put(person, delegate);
            backs.put(person, day + days);
            return backs.at(person);
        }

        int backOf(int person) {
            return backs.at(person);
        }

        boolean isAway(int person) {
            return day < backs.at(person);
        }

        /** For whom a person could approve the cost: who that is, or another one, or NONE. */
        int principalOf(int person, int cost) {
            if (isAway(person)) {
                return NONE;
            }
            if (limits.at(person) >= cost) {
                return person;
            }
            if (cost > 2 * limits.at(person)) {
                return NONE;
            }
            for (int other = 0; other < PEOPLE; other++) {
                if (isAway(other) && delegates.at(other) == person && limits.at(other) >= cost) {
                    return other;
                }
            }
            return NONE;
        }

        /** The greatest limit of those who could approve the cost by it, but for one person, or NONE. */
        int greatestLimit(int asker, int cost) {
            int greatest = NONE;
            for (int person = 0; person < PEOPLE; person++) {
                int limit = limits.at(person);
                if (person != asker && !isAway(person) && limit >= cost && limit > greatest) {
                    greatest = limit;
                }
            }
            return greatest;
        }
    }

    /** The requests with their choices and approvals. */
    private static final class Requests {
        private final Row people = new Row(REQUESTS);
        private final Row parts = new Row(REQUESTS);
        private final Row leasts = new Row(REQUESTS);
        private final Row states = new Row(REQUESTS);
        private final Row choices = new Row(REQUESTS);
        private final Row costs = new Row(REQUESTS);
        /** For each request and person the day on which the approval ends, 0 without one. */
        private final Row ends = new Row(REQUESTS * PEOPLE);
        private int number;

        void clear() {
            number = 0;
        }

        int count() {
            return number;
        }

        int add(int person, int part, int least) {
            int request = number;
            number++;
            people.put(request, person);
            parts.put(request, part);
            leasts.put(request, least);
            reopen(request);
            endApprovals(request);
            return request;
        }

        int personOf(int request) {
            return people.at(request);
        }

        int partOf(int request) {
            return parts.at(request);
        }

        int leastOf(int request) {
            return leasts.at(request);
        }

        int stateOf(int request) {
            return states.at(request);
        }

        int choiceOf(int request) {
            return choices.at(request);
        }

        int costOf(int request) {
            return costs.at(request);
        }

        int settle(int request, int choice, int cost) {
            states.put(request, RESOLVED);
            choices.put(request, choice);
            costs.put(request, cost);
            endApprovals(request);
            return cost;
        }

        int markReleased(int request) {
            states.put(request, RELEASED);
            return RELEASED;
        }

        void addApproval(int request, int person, int end) {
            ends.put(request * PEOPLE + person, end);
        }

        boolean hasApproval(int request, int person, int day) {
            return day < ends.at(request * PEOPLE + person);
        }

        int approvalsOf(int request, int day) {
            int count = 0;
            for (int person = 0; person < PEOPLE; person++) {
                if (hasApproval(request, person, day)) {
                    count++;
                }
            }
            return count;
        }

        /** Ends the approvals of all requests for which the version is chosen, and tells how many that were. */
        int loseVersion(int part, int version, int day) {
            int ended = 0;
            for (int request = 0; request < number; request++) {
                if (Choice.versionOf(choices.at(request), part) == version) {
                    ended += approvalsOf(request, day);
                    endApprovals(request);
                    if (states.at(request) == RESOLVED) {
                        reopen(request);
                    }
                }
            }
            return ended;
        }

        private void reopen(int request) {
            states.put(request, OPEN);
            choices.put(request, Choice.EMPTY);
            costs.put(request, 0);
        }

        private void endApprovals(int request) {
            for (int person = 0; person < PEOPLE; person++) {
                ends.put(request * PEOPLE + person, 0);
            }
        }
    }

    /** All that the book's entries have brought about. */
    private static final class Desk {
        final Parts parts = new Parts();
        final People people = new People();
        final Requests requests = new Requests();

        Desk() {
            clear();
        }

        void clear() {
            parts.clear();
            people.clear();
            requests.clear();
        }

        /** Does what an entry tells, which was checked before it was written; the answer is the call's. */
        int apply(Book book, int entry) {
            if (entry == NONE) {
                return NONE;
            }
            int first = book.wordOf(entry, 1);
            int second = book.wordOf(entry, 2);
            int third = book.wordOf(entry, 3);
            switch (book.wordOf(entry, 0)) {
                case VERSION:
                    return parts.addVersion(first, second);
                case NEED:
                    return parts.addNeed(first, second, third, book.wordOf(entry, 4), book.wordOf(entry, 5));
                case REPLACE:
                    parts.markReplaced(first, second);
                    return requests.loseVersion(first, second, people.today());
                case REQUEST:
                    return requests.add(first, second, third);
                case RESOLVE:
                    return requests.settle(first, second, parts.costOf(second));
                case LIMIT:
                    return people.changeLimit(first, second);
                case LEAVE:
                    return people.sendOnLeave(first, second, third);
                case APPROVE:
                    return takeApproval(first, second);
                case RELEASE:
                    return requests.markReleased(first);
                case PASS:
                    return people.addDays(first);
                default:
                    return NONE;
            }
        }

        /** For whom a person can approve a request now, NONE if it cannot be done. */
        int principalFor(int request, int person) {
            boolean isFree = requests.stateOf(request) == RESOLVED && person != requests.personOf(request)
                    && !requests.hasApproval(request, person, people.today());
            return isFree ? people.principalOf(person, requests.costOf(request)) : NONE;
        }

        int approvalsOf(int request) {
            return requests.approvalsOf(request, people.today());
        }

        /** Each person has at most one approval of a request that has not ended, so two are of unlike people. */
        boolean isCovered(int request) {
            int enough = requests.costOf(request) > COST_FOR_TWO ? 2 : 1;
            return approvalsOf(request) >= enough;
        }

        private int takeApproval(int request, int person) {
            int principal = people.principalOf(person, requests.costOf(request));
            int end = principal == person ? NEVER : people.backOf(principal);
            requests.addApproval(request, person, end);
            return principal;
        }
    }

    /** All that was told, in order. */
    private static final class Book {
        private static final int WORDS = 6;

        private final Row words = new Row(MOST_ENTRIES * WORDS);
        private int number;

        int count() {
            return number;
        }

        /** The new entry's number; a full book takes none, which is beyond the calls that are promised. */
        int write(int kind, int first, int second, int third, int fourth, int fifth) {
            if (number >= MOST_ENTRIES) {
                return NONE;
            }
            int start = number * WORDS;
            words.put(start, kind);
            words.put(start + 1, first);
            words.put(start + 2, second);
            words.put(start + 3, third);
            words.put(start + 4, fourth);
            words.put(start + 5, fifth);
            number++;
            return number - 1;
        }

        int wordOf(int entry, int index) {
            return words.at(entry * WORDS + index);
        }
    }

    /** The search for a choice; its rows are used again by each. */
    private static final class Search {
        /** The parts that have to be chosen, in the order in which they came to be needed. */
        private final Row order = new Row(PARTS);
        /** For each depth and part the set of versions that are wanted by all that is chosen above it. */
        private final Row wanted = new Row((PARTS + 1) * PARTS);
        private int number;
        private int choice;

        /** The first choice that holds, or the empty one. */
        int find(Parts parts, int part, int least) {
            for (int each = 0; each < PARTS; each++) {
                wanted.put(each, parts.current(each));
            }
            wanted.put(part, wanted.at(part) & Parts.versionSet(least, VERSIONS));
            order.put(0, part);
            number = 1;
            choice = Choice.EMPTY;
            fill(parts, 0);
            return choice;
        }

        /** Chooses for the parts from this depth on; the choice is put together on the way back. */
        private boolean fill(Parts parts, int depth) {
            if (depth >= number || depth >= PARTS) {
                return true;
            }
            int part = order.at(depth);
            int set = wanted.at(depth * PARTS + part);
            int numberBefore = number;
            for (int version = VERSIONS; version >= 1; version--) {
                boolean isWanted = (set & Parts.versionSet(version, version)) != 0;
                if (isWanted && take(parts, depth, version) && fill(parts, depth + 1)) {
                    choice = Choice.with(choice, part, version);
                    return true;
                }
                number = numberBefore;
            }
            return false;
        }

        /**
         * Lets the needs of a version stand for the next depth; false if no version of some part is left.
         * A part that is chosen has its one version as its set there, so it is tested by that as well.
         */
        private boolean take(Parts parts, int depth, int version) {
            int part = order.at(depth);
            int next = (depth + 1) * PARTS;
            for (int each = 0; each < PARTS; each++) {
                wanted.put(next + each, wanted.at(depth * PARTS + each));
            }
            wanted.put(next + part, Parts.versionSet(version, version));
            int count = parts.needsOf(part, version);
            for (int index = 0; index < count; index++) {
                int other = parts.neededPart(part, version, index);
                int left = wanted.at(next + other) & parts.neededVersions(part, version, index);
                if (left == 0) {
                    return false;
                }
                wanted.put(next + other, left);
                await(other);
            }
            return true;
        }

        private void await(int part) {
            for (int index = 0; index < number; index++) {
                if (order.at(index) == part) {
                    return;
                }
            }
            order.put(number, part);
            number++;
        }
    }
}
