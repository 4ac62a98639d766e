import java.util.ArrayList;
import java.util.List;

/** The document said again in the plainest way, with lists and without a book, to compare long runs with. */
final class Model {
    private static final class Need {
        int other, least, greatest;
    }

    private static final class Version {
        int cost;
        boolean replaced;
        final List<Need> needs = new ArrayList<>();
    }

    private static final class Approval {
        int person;
        boolean ended;
        /** The day on which it ends, or -1 if no day ends it. */
        int end = -1;
    }

    private static final class Request {
        int person, part, least, state, cost;
        Integer[] choice = new Integer[8];
        List<Approval> approvals = new ArrayList<>();
    }

    private static final class Person {
        int limit = 100, delegate, back;
    }

    private final List<List<Version>> parts = new ArrayList<>();
    private final List<Request> requests = new ArrayList<>();
    private final Person[] people = new Person[8];
    private int day;
    private int entries;

    Model() {
        for (int i = 0; i < 8; i++) {
            parts.add(new ArrayList<>());
            people[i] = new Person();
        }
    }

    int version(int part, int cost) {
        index(part >= 0 && part < 8);
        argument(cost >= 0 && cost <= 1000);
        state(parts.get(part).size() < 3);
        Version version = new Version();
        version.cost = cost;
        parts.get(part).add(version);
        entries++;
        return parts.get(part).size();
    }

    int need(int part, int version, int other, int least, int greatest) {
        index(part >= 0 && part < 8 && other >= 0 && other < 8);
        index(version >= 1 && version <= parts.get(part).size());
        argument(part != other && least >= 1 && least <= 3 && greatest >= least && greatest <= 3);
        List<Need> needs = parts.get(part).get(version - 1).needs;
        state(needs.size() < 4);
        Need need = new Need();
        need.other = other;
        need.least = least;
        need.greatest = greatest;
        needs.add(need);
        entries++;
        return needs.size();
    }

    int replace(int part, int version) {
        index(part >= 0 && part < 8 && version >= 1 && version <= parts.get(part).size());
        state(!parts.get(part).get(version - 1).replaced);
        parts.get(part).get(version - 1).replaced = true;
        entries++;
        int ended = 0;
        for (Request request : requests) {
            if (request.choice[part] == null || request.choice[part] != version) {
                continue;
            }
            for (Approval approval : request.approvals) {
                ended += holds(approval) ? 1 : 0;
                approval.ended = true;
            }
            if (request.state != Approvalyard.RELEASED) {
                request.state = Approvalyard.OPEN;
                request.choice = new Integer[8];
            }
        }
        return ended;
    }

    int request(int person, int part, int least) {
        index(person >= 0 && person < 8 && part >= 0 && part < 8);
        argument(least >= 1 && least <= 3);
        state(requests.size() < 30);
        Request request = new Request();
        request.person = person;
        request.part = part;
        request.least = least;
        requests.add(request);
        entries++;
        return requests.size() - 1;
    }

    int resolve(int number) {
        Request request = requestOf(number);
        state(request.state != Approvalyard.RELEASED);
        Integer[] choice = new Integer[8];
        if (!search(request, choice)) {
            return Approvalyard.NONE;
        }
        request.choice = choice;
        request.state = Approvalyard.RESOLVED;
        request.approvals = new ArrayList<>();
        request.cost = 0;
        for (int part = 0; part < 8; part++) {
            request.cost += choice[part] == null ? 0 : parts.get(part).get(choice[part] - 1).cost;
        }
        entries++;
        return request.cost;
    }

    /** Tries all choices in the document's order, and looks at each only when it is whole. */
    private boolean search(Request request, Integer[] choice) {
        List<Integer> needed = needed(request.part, choice);
        for (int part : needed) {
            if (choice[part] != null) {
                continue;
            }
            for (int version = parts.get(part).size(); version >= 1; version--) {
                choice[part] = version;
                if (search(request, choice)) {
                    return true;
                }
            }
            choice[part] = null;
            return false;
        }
        return holds(request, choice);
    }

    /** The parts that have to be chosen so far, in the order in which they came to be needed. */
    private List<Integer> needed(int first, Integer[] choice) {
        List<Integer> needed = new ArrayList<>();
        needed.add(first);
        for (int i = 0; i < needed.size() && choice[needed.get(i)] != null; i++) {
            int part = needed.get(i);
            for (Need need : parts.get(part).get(choice[part] - 1).needs) {
                if (!needed.contains(need.other)) {
                    needed.add(need.other);
                }
            }
        }
        return needed;
    }

    private boolean holds(Request request, Integer[] choice) {
        if (choice[request.part] < request.least) {
            return false;
        }
        for (int part = 0; part < 8; part++) {
            if (choice[part] == null) {
                continue;
            }
            Version version = parts.get(part).get(choice[part] - 1);
            if (version.replaced) {
                return false;
            }
            for (Need need : version.needs) {
                Integer other = choice[need.other];
                if (other == null || other < need.least || other > need.greatest) {
                    return false;
                }
            }
        }
        return true;
    }

    int chosen(int number, int part) {
        Request request = requestOf(number);
        index(part >= 0 && part < 8);
        return request.choice[part] == null ? Approvalyard.NONE : request.choice[part];
    }

    int limit(int person, int limit) {
        index(person >= 0 && person < 8);
        argument(limit >= 0 && limit <= 10000);
        int before = people[person].limit;
        people[person].limit = limit;
        entries++;
        return before;
    }

    int leave(int person, int delegate, int days) {
        index(person >= 0 && person < 8 && delegate >= 0 && delegate < 8);
        argument(person != delegate && days >= 1 && days <= 60);
        people[person].delegate = delegate;
        people[person].back = day + days;
        entries++;
        return day + days;
    }

    int approve(int number, int person) {
        Request request = requestOf(number);
        index(person >= 0 && person < 8);
        state(request.state == Approvalyard.RESOLVED);
        state(person != request.person && !away(person));
        for (Approval approval : request.approvals) {
            state(!holds(approval) || approval.person != person);
        }
        Approval approval = new Approval();
        approval.person = person;
        int whom = Approvalyard.NONE;
        if (people[person].limit >= request.cost) {
            whom = person;
        } else {
            for (int other = 7; other >= 0; other--) {
                boolean delegate = away(other) && people[other].delegate == person;
                if (delegate && people[other].limit >= request.cost && people[person].limit * 2 >= request.cost) {
                    whom = other;
                    approval.end = people[other].back;
                }
            }
        }
        state(whom != Approvalyard.NONE);
        request.approvals.add(approval);
        entries++;
        return whom;
    }

    int release(int number) {
        Request request = requestOf(number);
        state(request.state == Approvalyard.RESOLVED && covered(request));
        request.state = Approvalyard.RELEASED;
        entries++;
        return 0;
    }

    int pass(int days) {
        argument(days >= 1 && days <= 60);
        day += days;
        entries++;
        return day;
    }

    int ofRequest(int number, int what) {
        Request request = requestOf(number);
        argument(what >= 0 && what <= 3);
        int count = 0;
        for (Approval approval : request.approvals) {
            count += holds(approval) ? 1 : 0;
        }
        int[] answers = {
            request.state, request.state == Approvalyard.OPEN ? Approvalyard.NONE : request.cost, count,
            covered(request) ? 1 : 0
        };
        return answers[what];
    }

    boolean isCoveredAnew(int number) {
        return covered(requestOf(number));
    }

    float strain(int number) {
        Request request = requestOf(number);
        if (request.state == Approvalyard.OPEN) {
            return -1.0f;
        }
        List<Integer> limits = new ArrayList<>();
        for (int person = 0; person < 8; person++) {
            if (person != request.person && !away(person) && people[person].limit >= request.cost) {
                limits.add(people[person].limit);
            }
        }
        limits.sort(null);
        if (limits.isEmpty()) {
            return -1.0f;
        }
        int greatest = limits.get(limits.size() - 1);
        return greatest == 0 ? 0.0f : (float) request.cost / (float) greatest;
    }

    int entries() {
        return entries;
    }

    /** How many requests there are, for who chooses the calls. */
    int count() {
        return requests.size();
    }

    private boolean covered(Request request) {
        List<Integer> approvers = new ArrayList<>();
        for (Approval approval : request.approvals) {
            if (holds(approval) && !approvers.contains(approval.person)) {
                approvers.add(approval.person);
            }
        }
        return approvers.size() >= (request.cost > 500 ? 2 : 1);
    }

    private boolean holds(Approval approval) {
        return !approval.ended && (approval.end == -1 || day < approval.end);
    }

    private boolean away(int person) {
        return day < people[person].back;
    }

    private Request requestOf(int number) {
        index(number >= 0 && number < requests.size());
        return requests.get(number);
    }

    private static void index(boolean holds) {
        if (!holds) {
            throw new IndexOutOfBoundsException();
        }
    }

    private static void argument(boolean holds) {
        if (!holds) {
            throw new IllegalArgumentException();
        }
    }

    private static void state(boolean holds) {
        if (!holds) {
            throw new IllegalStateException();
        }
    }
}
