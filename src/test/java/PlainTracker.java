import java.util.ArrayDeque;
import java.util.ArrayList;
import java.util.Arrays;
import java.util.Comparator;
import java.util.Deque;
import java.util.HashSet;
import java.util.List;
import java.util.Optional;
import java.util.Set;
import java.util.TreeSet;

/** The document once more, as plainly as the Java library allows; ModelTest compares the program with it. */
public final class PlainTracker {
    private static final Set<String> ORDERS = allOrders();

    private static final class Ticket {
        int state;
        int points;
        int priority;
        Integer owner;
        Integer milestone;
        int opened;
        int closed;
        int days;
        int back;
        Set<Integer> needs = new TreeSet<>();

        Ticket copy() {
            Ticket t = new Ticket();
            t.state = state;
            t.points = points;
            t.priority = priority;
            t.owner = owner;
            t.milestone = milestone;
            t.opened = opened;
            t.closed = closed;
            t.days = days;
            t.back = back;
            t.needs = new TreeSet<>(needs);
            return t;
        }

        boolean live() {
            return state < 3;
        }
    }

    private static final class State {
        List<Ticket> tickets = new ArrayList<>();
        int[] capacity = {20, 20, 20, 20, 20};
        int[] date = {10, 20, 30, 40};
        int day;
        int closings;
        int reopenings;

        State copy() {
            State s = new State();
            for (Ticket t : tickets) {
                s.tickets.add(t.copy());
            }
            s.capacity = capacity.clone();
            s.date = date.clone();
            s.day = day;
            s.closings = closings;
            s.reopenings = reopenings;
            return s;
        }
    }

    private State s = new State();
    private final Deque<State> saved = new ArrayDeque<>();
    private final State[] slots = new State[2];
    private String buffer = "";
    private boolean following;

    private static Set<String> allOrders() {
        Set<String> all = new HashSet<>();
        for (int p = 1; p <= 13; p++) {
            all.add("o" + p);
            for (int q = 0; q <= 3; q++) {
                all.add("o" + p + "!" + q);
            }
        }
        for (int t = 0; t <= 19; t++) {
            for (int u = 0; u <= 19; u++) {
                all.add("n" + t + ">" + u);
            }
            for (int w = 0; w <= 4; w++) {
                all.add("a" + t + "@" + w);
            }
            all.add("s" + t);
            all.add("r" + t);
            all.add("c" + t);
        }
        for (int d = 1; d <= 30; d++) {
            all.add("e" + d);
        }
        return all;
    }

    private static void index(boolean ok) {
        if (!ok) {
            throw new IndexOutOfBoundsException();
        }
    }

    private static void argument(boolean ok) {
        if (!ok) {
            throw new IllegalArgumentException();
        }
    }

    private static void state(boolean ok) {
        if (!ok) {
            throw new IllegalStateException();
        }
    }

    private Ticket at(int ticket) {
        index(ticket >= 0 && ticket < s.tickets.size());
        return s.tickets.get(ticket);
    }

    private void save() {
        if (!following) {
            saved.addLast(s.copy());
            if (saved.size() > 6) {
                saved.removeFirst();
            }
        }
    }

    private int load(Integer owner) {
        int sum = 0;
        for (Ticket t : s.tickets) {
            if (t.live() && owner != null && owner.equals(t.owner)) {
                sum += t.points;
            }
        }
        return sum;
    }

    private Set<Integer> blocked() {
        Set<Integer> found = new HashSet<>();
        for (int i = 0; i < s.tickets.size(); i++) {
            for (int n : s.tickets.get(i).needs) {
                if (s.tickets.get(n).live()) {
                    found.add(i);
                }
            }
        }
        return found;
    }

    private Set<Integer> reach(int ticket) {
        Set<Integer> found = new HashSet<>();
        Deque<Integer> open = new ArrayDeque<>(s.tickets.get(ticket).needs);
        while (!open.isEmpty()) {
            int next = open.pop();
            if (found.add(next)) {
                open.addAll(s.tickets.get(next).needs);
            }
        }
        return found;
    }

    public int openTicket(int points, int priority) {
        argument(points >= 1 && points <= 13 && priority >= 0 && priority <= 3);
        state(s.tickets.size() < 20);
        save();
        Ticket t = new Ticket();
        t.points = points;
        t.priority = priority;
        t.opened = s.day;
        s.tickets.add(t);
        return s.tickets.size() - 1;
    }

    public int reestimate(int ticket, int points) {
        Ticket t = at(ticket);
        argument(points >= 1 && points <= 13);
        state(t.live() && (t.owner == null || load(t.owner) - t.points + points <= s.capacity[t.owner]));
        save();
        int before = t.points;
        t.points = points;
        return before;
    }

    public int changePriority(int ticket, int priority) {
        Ticket t = at(ticket);
        argument(priority >= 0 && priority <= 3);
        save();
        int before = t.priority;
        t.priority = priority;
        return before;
    }

    public int need(int ticket, int needed) {
        Ticket t = at(ticket);
        at(needed);
        argument(ticket != needed);
        state(!t.needs.contains(needed) && t.live() && !reach(needed).contains(ticket));
        save();
        t.needs.add(needed);
        return t.needs.size();
    }

    public int release(int ticket, int needed) {
        Ticket t = at(ticket);
        at(needed);
        state(t.needs.contains(needed));
        save();
        t.needs.remove(needed);
        return t.needs.size();
    }

    public int assign(int ticket, int owner) {
        Ticket t = at(ticket);
        index(owner >= 0 && owner < 5);
        state(t.live() && (t.owner == null || t.owner != owner) && load(owner) + t.points <= s.capacity[owner]);
        save();
        t.owner = owner;
        return load(owner);
    }

    public int unassign(int ticket) {
        Ticket t = at(ticket);
        state(t.owner != null && t.state == 0);
        save();
        int before = t.owner;
        t.owner = null;
        return before;
    }

    public int changeCapacity(int owner, int capacity) {
        index(owner >= 0 && owner < 5);
        argument(capacity >= 0 && capacity <= 99);
        state(load(owner) <= capacity);
        save();
        int before = s.capacity[owner];
        s.capacity[owner] = capacity;
        return before;
    }

    public int plan(int ticket, int milestone) {
        Ticket t = at(ticket);
        index(milestone >= 0 && milestone < 4);
        state(t.live() && (t.milestone == null || t.milestone != milestone));
        save();
        t.milestone = milestone;
        return pointsLeft(milestone);
    }

    public int unplan(int ticket) {
        Ticket t = at(ticket);
        state(t.milestone != null && t.live());
        save();
        int before = t.milestone;
        t.milestone = null;
        return before;
    }

    public int changeDate(int milestone, int day) {
        index(milestone >= 0 && milestone < 4);
        argument(day >= 0 && day <= 999);
        save();
        int before = s.date[milestone];
        s.date[milestone] = day;
        return before;
    }

    public int endDays(int days) {
        argument(days >= 1 && days <= 30);
        state(s.day + days <= 999);
        save();
        for (int i = 0; i < days; i++) {
            s.day++;
            for (Ticket t : s.tickets) {
                t.days += t.state == 1 ? 1 : 0;
            }
        }
        return s.day;
    }

    public void start(int ticket) {
        Ticket t = at(ticket);
        state(t.state == 0 && t.owner != null);
        save();
        t.state = 1;
    }

    public void submit(int ticket) {
        Ticket t = at(ticket);
        state(t.state == 1);
        save();
        t.state = 2;
    }

    public int sendBack(int ticket) {
        Ticket t = at(ticket);
        state(t.state == 2);
        save();
        t.state = 1;
        return ++t.back;
    }

    public int close(int ticket) {
        Ticket t = at(ticket);
        state(t.state == 2 && !blocked().contains(ticket));
        save();
        Set<Integer> before = blocked();
        t.state = 3;
        t.closed = s.day;
        s.closings++;
        before.removeAll(blocked());
        return before.size();
    }

    public int reopen(int ticket) {
        Ticket t = at(ticket);
        boolean neededByClosed = false;
        for (Ticket other : s.tickets) {
            neededByClosed |= other.state == 3 && other.needs.contains(ticket);
        }
        state(t.state == 3 && !neededByClosed && (t.owner == null || load(t.owner) + t.points <= s.capacity[t.owner]));
        save();
        Set<Integer> before = blocked();
        t.state = 0;
        s.reopenings++;
        Set<Integer> after = blocked();
        after.removeAll(before);
        return after.size();
    }

    public int drop(int ticket) {
        Ticket t = at(ticket);
        state(t.live());
        save();
        Set<Integer> before = blocked();
        t.state = 4;
        before.removeAll(blocked());
        return before.size();
    }

    public int append(int code) {
        argument(code >= 33 && code <= 126);
        state(buffer.length() < 60);
        buffer += (char) code;
        return buffer.length();
    }

    public int clearBuffer() {
        int before = buffer.length();
        buffer = "";
        return before;
    }

    private static boolean begins(String text) {
        String[] parts = text.split(";", -1);
        for (int i = 0; i < parts.length - 1; i++) {
            if (!ORDERS.contains(parts[i])) {
                return false;
            }
        }
        String last = parts[parts.length - 1];
        return ORDERS.stream().anyMatch(order -> order.startsWith(last));
    }

    public int firstError() {
        for (int i = 0; i < buffer.length(); i++) {
            if (!begins(buffer.substring(0, i + 1))) {
                return i;
            }
        }
        return buffer.length();
    }

    private boolean tells() {
        return Arrays.stream(buffer.split(";", -1)).allMatch(ORDERS::contains);
    }

    private void one(String order) {
        String[] numbers = order.substring(1).split("[!>@]");
        int first = Integer.parseInt(numbers[0]);
        int second = numbers.length > 1 ? Integer.parseInt(numbers[1]) : 1;
        switch (order.charAt(0)) {
            case 'o' -> openTicket(first, second);
            case 'n' -> need(first, second);
            case 'a' -> assign(first, second);
            case 's' -> start(first);
            case 'r' -> submit(first);
            case 'c' -> close(first);
            default -> endDays(first);
        }
    }

    /** How many orders of the buffer can be followed; they are followed. */
    private int followed() {
        String[] parts = buffer.split(";", -1);
        following = true;
        int done = 0;
        try {
            for (String part : parts) {
                one(part);
                done++;
            }
        } catch (RuntimeException e) {
            return done;
        } finally {
            following = false;
        }
        return done;
    }

    public int follow() {
        argument(tells());
        State before = s.copy();
        int closed = s.closings;
        if (followed() < buffer.split(";", -1).length) {
            s = before;
            throw new IllegalStateException();
        }
        State after = s;
        s = before;
        save();
        s = after;
        buffer = "";
        return s.closings - closed;
    }

    public int impossibleOrder() {
        argument(tells());
        State before = s.copy();
        int done = followed();
        s = before;
        state(done < buffer.split(";", -1).length);
        return done;
    }

    public void keep(int slot) {
        argument(slot == 0 || slot == 1);
        slots[slot] = s.copy();
    }

    public void goBack(int slot) {
        argument(slot == 0 || slot == 1);
        state(slots[slot] != null);
        save();
        s = slots[slot].copy();
    }

    public void undo() {
        state(!saved.isEmpty());
        s = saved.removeLast();
    }

    public int savedStates() {
        return saved.size();
    }

    public int tickets() {
        return s.tickets.size();
    }

    public int stateOf(int ticket) {
        return at(ticket).state;
    }

    public int pointsOf(int ticket) {
        return at(ticket).points;
    }

    public int priorityOf(int ticket) {
        return at(ticket).priority;
    }

    public boolean hasOwner(int ticket) {
        return at(ticket).owner != null;
    }

    public int ownerOf(int ticket) {
        state(at(ticket).owner != null);
        return at(ticket).owner;
    }

    public boolean isPlanned(int ticket) {
        return at(ticket).milestone != null;
    }

    public int milestoneOf(int ticket) {
        state(at(ticket).milestone != null);
        return at(ticket).milestone;
    }

    public int openedOn(int ticket) {
        return at(ticket).opened;
    }

    public int closedOn(int ticket) {
        state(at(ticket).state == 3);
        return at(ticket).closed;
    }

    public int daysInProgress(int ticket) {
        return at(ticket).days;
    }

    public int timesSentBack(int ticket) {
        return at(ticket).back;
    }

    public boolean needs(int ticket, int needed) {
        at(needed);
        return at(ticket).needs.contains(needed);
    }

    public int needsOf(int ticket) {
        return at(ticket).needs.size();
    }

    public int neededBy(int ticket) {
        at(ticket);
        return (int) s.tickets.stream().filter(t -> t.needs.contains(ticket)).count();
    }

    public boolean isBlocked(int ticket) {
        return blockersOf(ticket) > 0;
    }

    public int blockersOf(int ticket) {
        return (int) at(ticket).needs.stream().filter(n -> s.tickets.get(n).live()).count();
    }

    public int allNeedsByGoing(int ticket) {
        at(ticket);
        return reach(ticket).size();
    }

    public int allNeedsByTable(int ticket) {
        return allNeedsByGoing(ticket);
    }

    /** The best sum of weights over chains, made better until nothing changes. */
    private int[] bestChains(boolean points) {
        int count = s.tickets.size();
        int[] best = new int[count];
        for (int round = 0; round <= count; round++) {
            for (int i = 0; i < count; i++) {
                Ticket t = s.tickets.get(i);
                int further = 0;
                for (int n : t.needs) {
                    further = Math.max(further, best[n]);
                }
                best[i] = further + (!points ? 1 : t.live() ? t.points : 0);
            }
        }
        return best;
    }

    public int chainOf(int ticket) {
        at(ticket);
        return bestChains(false)[ticket];
    }

    public int criticalByTrying() {
        return Arrays.stream(bestChains(true)).max().orElse(0);
    }

    public int criticalByOrder() {
        return criticalByTrying();
    }

    public int capacityOf(int owner) {
        index(owner >= 0 && owner < 5);
        return s.capacity[owner];
    }

    public int loadByTickets(int owner) {
        index(owner >= 0 && owner < 5);
        return load(owner);
    }

    public int loadByAccount(int owner) {
        return loadByTickets(owner);
    }

    public int inProgressOf(int owner) {
        index(owner >= 0 && owner < 5);
        return (int) s.tickets.stream().filter(t -> t.state == 1 && t.owner == owner).count();
    }

    public int donePointsOf(int owner) {
        index(owner >= 0 && owner < 5);
        return s.tickets.stream().filter(t -> t.state == 3 && t.owner == owner).mapToInt(t -> t.points).sum();
    }

    public int freestOwner() {
        int best = 0;
        for (int owner = 0; owner < 5; owner++) {
            if (s.capacity[owner] - load(owner) > s.capacity[best] - load(best)) {
                best = owner;
            }
        }
        return best;
    }

    public int dateOf(int milestone) {
        index(milestone >= 0 && milestone < 4);
        return s.date[milestone];
    }

    private int pointsFor(int milestone, boolean done) {
        index(milestone >= 0 && milestone < 4);
        return s.tickets.stream().filter(t -> t.milestone != null && t.milestone == milestone)
                .filter(t -> done ? t.state == 3 : t.live()).mapToInt(t -> t.points).sum();
    }

    public int pointsLeft(int milestone) {
        return pointsFor(milestone, false);
    }

    public int pointsDone(int milestone) {
        return pointsFor(milestone, true);
    }

    public int hundredthsDone(int milestone) {
        int done = pointsDone(milestone);
        int left = pointsLeft(milestone);
        return done + left == 0 ? 100 : done * 100 / (done + left);
    }

    public boolean isLate(int milestone) {
        return pointsLeft(milestone) > 0 && s.day > s.date[milestone];
    }

    public int misplanned(int milestone) {
        index(milestone >= 0 && milestone < 4);
        int count = 0;
        for (Ticket t : s.tickets) {
            boolean badly = false;
            for (int n : t.needs) {
                Ticket needed = s.tickets.get(n);
                badly |= needed.live() && (needed.milestone == null || s.date[needed.milestone] > s.date[milestone]);
            }
            count += badly && t.live() && t.milestone != null && t.milestone == milestone ? 1 : 0;
        }
        return count;
    }

    public int lateMilestones() {
        int late = 0;
        for (int milestone = 0; milestone < 4; milestone++) {
            late += isLate(milestone) ? 1 : 0;
        }
        return late;
    }

    private Optional<Integer> best(Set<Integer> of) {
        Comparator<Integer> order = Comparator.comparing((Integer i) -> -s.tickets.get(i).priority);
        return of.stream().min(order.thenComparing(i -> s.tickets.get(i).points).thenComparing(i -> i));
    }

    public int nextToDo() {
        Set<Integer> free = new TreeSet<>();
        for (int i = 0; i < s.tickets.size(); i++) {
            if (s.tickets.get(i).state == 0 && !isBlocked(i)) {
                free.add(i);
            }
        }
        state(!free.isEmpty());
        return best(free).get();
    }

    private List<Integer> closingOrder() {
        State before = s;
        s = s.copy();
        List<Integer> order = new ArrayList<>();
        while (true) {
            Set<Integer> free = new TreeSet<>();
            for (int i = 0; i < s.tickets.size(); i++) {
                if (s.tickets.get(i).live() && !isBlocked(i)) {
                    free.add(i);
                }
            }
            if (free.isEmpty()) {
                s = before;
                return order;
            }
            int next = best(free).get();
            order.add(next);
            s.tickets.get(next).state = 3;
        }
    }

    public int closedAt(int place) {
        List<Integer> order = closingOrder();
        index(place >= 0 && place < order.size());
        return order.get(place);
    }

    public int day() {
        return s.day;
    }

    public int withState(int state) {
        argument(state >= 0 && state <= 4);
        return (int) s.tickets.stream().filter(t -> t.state == state).count();
    }

    public int pointsWith(int state) {
        argument(state >= 0 && state <= 4);
        return s.tickets.stream().filter(t -> t.state == state).mapToInt(t -> t.points).sum();
    }

    public int allPoints() {
        return s.tickets.stream().mapToInt(t -> t.points).sum();
    }

    public int blockedTickets() {
        return (int) blocked().stream().filter(i -> s.tickets.get(i).live()).count();
    }

    public int closings() {
        return s.closings;
    }

    public int reopenings() {
        return s.reopenings;
    }

    public int pointsOfWeek() {
        return s.tickets.stream().filter(t -> t.state == 3 && s.day - t.closed <= 6).mapToInt(t -> t.points).sum();
    }

    public double meanDays() {
        return s.tickets.stream().filter(t -> t.state == 3).mapToInt(t -> t.days).average().orElse(0.0);
    }

    public long digest() {
        List<Long> values = new ArrayList<>();
        int count = tickets();
        values.add((long) count);
        for (int i = 0; i < count; i++) {
            Ticket t = s.tickets.get(i);
            long[] each = {t.state, t.points, t.priority, t.owner == null ? 0 : t.owner + 1,
                t.milestone == null ? 0 : t.milestone + 1, t.opened, t.days, t.back, isBlocked(i) ? 1 : 0,
                blockersOf(i), allNeedsByGoing(i), allNeedsByTable(i), chainOf(i)};
            Arrays.stream(each).forEach(values::add);
            for (int j = 0; j < count; j++) {
                values.add(t.needs.contains(j) ? 1L : 0L);
            }
        }
        for (int i = 0; i < 5; i++) {
            long[] each = {s.capacity[i], load(i), load(i), inProgressOf(i), donePointsOf(i)};
            Arrays.stream(each).forEach(values::add);
        }
        for (int i = 0; i < 4; i++) {
            long[] each = {s.date[i], pointsLeft(i), pointsDone(i), hundredthsDone(i), isLate(i) ? 1 : 0,
                misplanned(i)};
            Arrays.stream(each).forEach(values::add);
        }
        long next = 0;
        try {
            next = nextToDo() + 1;
        } catch (IllegalStateException e) {
            next = 0;
        }
        long[] found = {freestOwner(), criticalByTrying(), criticalByOrder(), next};
        Arrays.stream(found).forEach(values::add);
        closingOrder().forEach(i -> values.add((long) i));
        long[] last = {s.day, blockedTickets(), s.closings, s.reopenings, pointsOfWeek(), saved.size(),
            Double.doubleToLongBits(meanDays()), slots[0] == null ? 0 : 1, slots[1] == null ? 0 : 1, buffer.length()};
        Arrays.stream(last).forEach(values::add);
        buffer.chars().forEach(c -> values.add((long) c));
        long hash = 4211;
        for (long value : values) {
            hash = 31 * hash + value;
        }
        return hash;
    }
}
