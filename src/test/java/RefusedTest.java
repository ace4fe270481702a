import java.nio.file.Files;
import java.nio.file.Path;
import java.util.Set;
import java.util.TreeSet;

/**
 * Each sentence of each "Throws": the call throws what is named first of all that applies, and changes nothing,
 * not even what is saved, what the slots hold and the buffer.
 */
final class RefusedTest extends Due {
    private static final Class<IndexOutOfBoundsException> INDEX = IndexOutOfBoundsException.class;
    private static final Class<IllegalArgumentException> ARGUMENT = IllegalArgumentException.class;
    private static final Class<IllegalStateException> STATE = IllegalStateException.class;
    private static final int[] NO_TICKETS = {12, -1, 13, 20, 31, 32, 33, Integer.MAX_VALUE, Integer.MIN_VALUE};

    private static final Set<String> refused = new TreeSet<>();
    private static String buffer = "e1";

    private interface OnTracker {
        void call(TicketChains x);
    }

    private interface OnTicket {
        void call(TicketChains x, int ticket);
    }

    public static void main(String[] args) throws Exception {
        theTrackerIsAsMeant();
        promises2To4();
        promise5();
        promises6To8();
        promises9To12();
        promise13();
        promises14To16();
        promises17To19();
        promise20();
        promises23And24();
        promises25To27();
        promises30To48();
        promises51To68();
        missingTickets();
        missingOwnersAndMilestones();
        severalExceptionsApply();
        severalExceptionsApplyToTexts();
        if (args.length == 0) {
            complain("RefusedTest is called with the document");
        } else {
            eachThrowsOfTheDocument(Path.of(args[0]));
        }
        end("RefusedTest");
    }

    private static TicketChains busy(int saved) {
        return Busy.with(saved, buffer);
    }

    private static void theTrackerIsAsMeant() {
        TicketChains x = busy(6);
        int[] states = {0, 0, 1, 2, 2, 3, 3, 4, 0, 0, 3, 0};
        for (int ticket = 0; ticket < states.length; ticket++) {
            due("stateOf " + ticket, x.stateOf(ticket), states[ticket]);
        }
        due("tickets", x.tickets(), states.length);
        due("load of 0", x.loadByAccount(0), 16);
        due("load of 4", x.loadByAccount(4), 0);
        due("four is blocked", x.isBlocked(4), true);
        due("savedStates", x.savedStates(), 6);
        due("savedStates behind undo", busy(3).savedStates(), 3);
        dueText("the same again", Deep.of(busy(3)), Deep.of(busy(3)));
        due("slot 0 and slot 1 differ", slotReading(0).equals(slotReading(1)), false);
    }

    private static String slotReading(int slot) {
        TicketChains x = busy(6);
        x.goBack(slot);
        return Reading.of(x);
    }

    /** With six saved states one more would put out the oldest; with three it would be counted; with none undo fails. */
    private static void refuse(int promise, String call, Class<? extends RuntimeException> want, OnTracker made) {
        int[] savedStates = {6, 3, 0};
        for (int saved : savedStates) {
            refuseOn(busy(saved), busy(saved), promise + ": " + call, want, made);
        }
        refused.add(promise + " " + want.getSimpleName());
    }

    private static void refuseOn(TicketChains x, TicketChains twin, String call,
            Class<? extends RuntimeException> want, OnTracker made) {
        String got = "nothing";
        try {
            made.call(x);
        } catch (RuntimeException e) {
            got = e.getClass().getName();
        }
        dueText("promise " + call + " throws", got, want.getName());
        dueText("promise " + call + " changes nothing", Deep.of(x), Deep.of(twin));
    }

    private static void promises2To4() {
        int[] noPoints = {0, 14, -1, -13, 256 + 5, Integer.MAX_VALUE, Integer.MIN_VALUE};
        for (int points : noPoints) {
            refuse(2, "openTicket with the points " + points, ARGUMENT, x -> x.openTicket(points, 1));
            refuse(3, "reestimate to " + points, ARGUMENT, x -> x.reestimate(0, points));
        }
        int[] noPriorities = {-1, 4, 256, Integer.MAX_VALUE, Integer.MIN_VALUE};
        for (int priority : noPriorities) {
            refuse(2, "openTicket with the priority " + priority, ARGUMENT, x -> x.openTicket(5, priority));
            refuse(4, "changePriority to " + priority, ARGUMENT, x -> x.changePriority(0, priority));
        }
        TicketChains full = withTickets(1, 2, 3, 4, 5, 6, 7, 8, 9, 10, 11, 12, 13, 1, 2, 3, 4, 5, 6, 7);
        TicketChains twin = withTickets(1, 2, 3, 4, 5, 6, 7, 8, 9, 10, 11, 12, 13, 1, 2, 3, 4, 5, 6, 7);
        refuseOn(full, twin, "2: the 21st ticket", STATE, x -> x.openTicket(1, 1));
        refused.add("2 IllegalStateException");
        for (int ticket : new int[] {5, 6, 10}) {
            refuse(3, "reestimate a closed one, to the same", STATE, x -> x.reestimate(ticket, x.pointsOf(ticket)));
            refuse(3, "reestimate a closed one", STATE, x -> x.reestimate(ticket, 1));
        }
        refuse(3, "reestimate a dropped one", STATE, x -> x.reestimate(7, 1));
        refuse(3, "reestimate one above the capacity", STATE, x -> x.reestimate(1, 8));
        refuse(3, "reestimate far above the capacity", STATE, x -> x.reestimate(1, 13));
    }

    private static void promise5() {
        for (int ticket : new int[] {0, 5, 7, 11}) {
            refuse(5, "need itself, " + ticket, ARGUMENT, x -> x.need(ticket, ticket));
        }
        refuse(5, "needs it already", STATE, x -> x.need(8, 1));
        refuse(5, "the other one needs it directly", STATE, x -> x.need(1, 8));
        refuse(5, "the other one needs it by way of others", STATE, x -> x.need(9, 8));
        refuse(5, "a closed one needs", STATE, x -> x.need(5, 11));
        refuse(5, "a dropped one needs", STATE, x -> x.need(7, 11));
    }

    private static void promises6To8() {
        refuse(6, "release what is not needed", STATE, x -> x.release(0, 4));
        refuse(6, "release what is needed by way of others", STATE, x -> x.release(8, 9));
        refuse(6, "release what needs it", STATE, x -> x.release(1, 8));
        refuse(6, "release itself", STATE, x -> x.release(1, 1));
        refuse(7, "assign a closed one", STATE, x -> x.assign(5, 2));
        refuse(7, "assign a dropped one", STATE, x -> x.assign(7, 2));
        refuse(7, "assign to its owner, open", STATE, x -> x.assign(1, 0));
        refuse(7, "assign to its owner, in progress", STATE, x -> x.assign(2, 1));
        refuse(7, "assign to its owner, in review", STATE, x -> x.assign(4, 2));
        refuse(7, "assign one above the capacity", STATE, x -> x.assign(11, 4));
        refuse(7, "assign far above the capacity", STATE, x -> x.assign(9, 4));
        refuse(8, "unassign without an owner", STATE, x -> x.unassign(0));
        refuse(8, "unassign in progress", STATE, x -> x.unassign(2));
        refuse(8, "unassign in review", STATE, x -> x.unassign(3));
        refuse(8, "unassign a closed one", STATE, x -> x.unassign(5));
        refuse(8, "unassign a dropped one", STATE, x -> x.unassign(7));
    }

    private static void promises9To12() {
        for (int capacity : new int[] {-1, 100, Integer.MAX_VALUE, Integer.MIN_VALUE}) {
            refuse(9, "changeCapacity to " + capacity, ARGUMENT, x -> x.changeCapacity(3, capacity));
        }
        refuse(9, "changeCapacity to one below the load", STATE, x -> x.changeCapacity(0, 15));
        refuse(9, "changeCapacity to 0", STATE, x -> x.changeCapacity(0, 0));
        refuse(10, "plan a closed one", STATE, x -> x.plan(5, 0));
        refuse(10, "plan a dropped one", STATE, x -> x.plan(7, 0));
        refuse(10, "plan for its milestone", STATE, x -> x.plan(1, 0));
        refuse(11, "unplan without a milestone", STATE, x -> x.unplan(0));
        refuse(11, "unplan a closed one", STATE, x -> x.unplan(6));
        refuse(11, "unplan a dropped one", STATE, x -> x.unplan(7));
        for (int day : new int[] {-1, 1000, Integer.MAX_VALUE, Integer.MIN_VALUE}) {
            refuse(12, "changeDate to " + day, ARGUMENT, x -> x.changeDate(3, day));
        }
    }

    private static TicketChains onDay(int day) {
        TicketChains x = withTickets(3);
        x.assign(0, 0);
        x.start(0);
        while (x.day() < day) {
            x.endDays(Math.min(30, day - x.day()));
        }
        return x;
    }

    private static void promise13() {
        for (int days : new int[] {0, -1, 31, Integer.MAX_VALUE, Integer.MIN_VALUE}) {
            refuse(13, "endDays " + days, ARGUMENT, x -> x.endDays(days));
        }
        refuseOn(onDay(999), onDay(999), "13: endDays 1 on the day 999", STATE, x -> x.endDays(1));
        refuseOn(onDay(998), onDay(998), "13: endDays 2 on the day 998", STATE, x -> x.endDays(2));
        refuseOn(onDay(970), onDay(970), "13: endDays 30 on the day 970", STATE, x -> x.endDays(30));
        refused.add("13 IllegalStateException");
    }

    private static void promises14To16() {
        refuse(14, "start without an owner", STATE, x -> x.start(0));
        for (int ticket : new int[] {2, 3, 5, 7}) {
            refuse(14, "start in the state of " + ticket, STATE, x -> x.start(ticket));
        }
        for (int ticket : new int[] {1, 3, 5, 7}) {
            refuse(15, "submit in the state of " + ticket, STATE, x -> x.submit(ticket));
        }
        for (int ticket : new int[] {1, 2, 5, 7}) {
            refuse(16, "sendBack in the state of " + ticket, STATE, x -> x.sendBack(ticket));
        }
    }

    private static void promises17To19() {
        for (int ticket : new int[] {1, 2, 5, 7}) {
            refuse(17, "close in the state of " + ticket, STATE, x -> x.close(ticket));
        }
        refuse(17, "close a blocked one", STATE, x -> x.close(4));
        for (int ticket : new int[] {1, 2, 3, 7}) {
            refuse(18, "reopen in the state of " + ticket, STATE, x -> x.reopen(ticket));
        }
        refuse(18, "reopen one that a closed one needs", STATE, x -> x.reopen(5));
        refuse(18, "reopen one above the capacity", STATE, x -> x.reopen(10));
        for (int ticket : new int[] {5, 6, 10}) {
            refuse(19, "drop a closed one, " + ticket, STATE, x -> x.drop(ticket));
        }
        refuse(19, "drop a dropped one", STATE, x -> x.drop(7));
    }

    private static void promise20() {
        for (int code : new int[] {32, 127, 0, 10, -1, 128, 256 + 'o', 65536 + 'o', Integer.MAX_VALUE, Integer.MIN_VALUE}) {
            refuse(20, "append " + code, ARGUMENT, x -> x.append(code));
        }
        buffer = "e1;".repeat(20);
        for (int code : new int[] {33, 'e', 126}) {
            refuse(20, "append " + code + " to 60 characters", STATE, x -> x.append(code));
        }
        buffer = "e1";
    }

    private static void promises23And24() {
        String[] noOrders = {"", "o", "o1!", "s1;", "e1;;e1", "e0", "e31", "o14", "n1>20", "a1@5", "a1@0;x", "e1;".repeat(20)};
        for (String text : noOrders) {
            buffer = text;
            refuse(23, "follow of " + text, ARGUMENT, TicketChains::follow);
            refuse(24, "impossibleOrder of " + text, ARGUMENT, TicketChains::impossibleOrder);
        }
        String[] impossible = {"s0", "a11@2;s12", "e30;c4", "a0@0;a0@0", "n11>0;n0>11", "n0>0", "r2;c2;r2", "a9@2;c3;a2@4;o13;a12@2",
            "o1;o1;o1;o1;o1;o1;o1;o1;o1"};
        for (String text : impossible) {
            buffer = text;
            refuse(23, "follow of " + text, STATE, TicketChains::follow);
        }
        String[] possible = {"e1", "a0@2;s0;r0;c0;c4", "o13!3;n12>5", "e30;e30;e30"};
        for (String text : possible) {
            buffer = text;
            refuse(24, "impossibleOrder of " + text, STATE, TicketChains::impossibleOrder);
        }
        buffer = "e1";
    }

    private static void promises25To27() {
        for (int slot : new int[] {2, -1, Integer.MAX_VALUE, Integer.MIN_VALUE}) {
            refuse(25, "keep " + slot, ARGUMENT, x -> x.keep(slot));
            refuse(26, "goBack " + slot, ARGUMENT, x -> x.goBack(slot));
        }
        refuseOn(withTickets(1, 2), withTickets(1, 2), "26: goBack(0) without a snapshot", STATE, x -> x.goBack(0));
        refuseOn(withTickets(1, 2), withTickets(1, 2), "26: goBack(1) without a snapshot", STATE, x -> x.goBack(1));
        refused.add("26 IllegalStateException");
        refuseOn(busy(0), busy(0), "27: undo without a state", STATE, TicketChains::undo);
        refuseOn(new TicketChains(), new TicketChains(), "27: undo of a new object", STATE, TicketChains::undo);
        refused.add("27 IllegalStateException");
    }

    private static void promises30To48() {
        refuse(34, "ownerOf without one", STATE, x -> x.ownerOf(0));
        refuse(36, "milestoneOf without one", STATE, x -> x.milestoneOf(0));
        for (int ticket : new int[] {0, 1, 2, 3, 7}) {
            refuse(38, "closedOn in the state of " + ticket, STATE, x -> x.closedOn(ticket));
        }
    }

    private static void promises51To68() {
        refuseOn(new TicketChains(), new TicketChains(), "64: nextToDo without tickets", STATE, TicketChains::nextToDo);
        refused.add("64 IllegalStateException");
        for (int place : new int[] {8, -1, 9, 20, Integer.MAX_VALUE, Integer.MIN_VALUE}) {
            refuse(65, "closedAt " + place, INDEX, x -> x.closedAt(place));
        }
        for (int state : new int[] {-1, 5, Integer.MAX_VALUE, Integer.MIN_VALUE}) {
            refuse(67, "withState " + state, ARGUMENT, x -> x.withState(state));
            refuse(68, "pointsWith " + state, ARGUMENT, x -> x.pointsWith(state));
        }
    }

    private static void refuseTickets(int promise, OnTicket made) {
        for (int ticket : NO_TICKETS) {
            refuse(promise, "the ticket " + ticket, INDEX, x -> made.call(x, ticket));
        }
        refuseOn(new TicketChains(), new TicketChains(), promise + ": the ticket 0 without tickets", INDEX,
                x -> made.call(x, 0));
    }

    private static void missingTickets() {
        refuseTickets(3, (x, ticket) -> x.reestimate(ticket, 1));
        refuseTickets(4, (x, ticket) -> x.changePriority(ticket, 1));
        refuseTickets(5, (x, ticket) -> x.need(ticket, 11));
        refuseTickets(5, (x, ticket) -> x.need(11, ticket));
        refuseTickets(6, (x, ticket) -> x.release(ticket, 9));
        refuseTickets(6, (x, ticket) -> x.release(8, ticket));
        refuseTickets(7, (x, ticket) -> x.assign(ticket, 3));
        refuseTickets(8, TicketChains::unassign);
        refuseTickets(10, (x, ticket) -> x.plan(ticket, 3));
        refuseTickets(11, TicketChains::unplan);
        refuseTickets(14, TicketChains::start);
        refuseTickets(15, TicketChains::submit);
        refuseTickets(16, TicketChains::sendBack);
        refuseTickets(17, TicketChains::close);
        refuseTickets(18, TicketChains::reopen);
        refuseTickets(19, TicketChains::drop);
        refuseTickets(30, TicketChains::stateOf);
        refuseTickets(31, TicketChains::pointsOf);
        refuseTickets(32, TicketChains::priorityOf);
        refuseTickets(33, TicketChains::hasOwner);
        refuseTickets(34, TicketChains::ownerOf);
        refuseTickets(35, TicketChains::isPlanned);
        refuseTickets(36, TicketChains::milestoneOf);
        refuseTickets(37, TicketChains::openedOn);
        refuseTickets(38, TicketChains::closedOn);
        refuseTickets(39, TicketChains::daysInProgress);
        refuseTickets(40, TicketChains::timesSentBack);
        refuseTickets(41, (x, ticket) -> x.needs(ticket, 1));
        refuseTickets(41, (x, ticket) -> x.needs(8, ticket));
        refuseTickets(42, TicketChains::needsOf);
        refuseTickets(43, TicketChains::neededBy);
        refuseTickets(44, TicketChains::isBlocked);
        refuseTickets(45, TicketChains::blockersOf);
        refuseTickets(46, TicketChains::allNeedsByGoing);
        refuseTickets(47, TicketChains::allNeedsByTable);
        refuseTickets(48, TicketChains::chainOf);
    }

    private static void missingOwnersAndMilestones() {
        for (int owner : new int[] {5, -1, Integer.MAX_VALUE, Integer.MIN_VALUE}) {
            refuse(7, "assign to " + owner, INDEX, x -> x.assign(0, owner));
            refuse(9, "changeCapacity of " + owner, INDEX, x -> x.changeCapacity(owner, 50));
            refuse(51, "capacityOf " + owner, INDEX, x -> x.capacityOf(owner));
            refuse(52, "loadByTickets " + owner, INDEX, x -> x.loadByTickets(owner));
            refuse(53, "loadByAccount " + owner, INDEX, x -> x.loadByAccount(owner));
            refuse(54, "inProgressOf " + owner, INDEX, x -> x.inProgressOf(owner));
            refuse(55, "donePointsOf " + owner, INDEX, x -> x.donePointsOf(owner));
        }
        for (int milestone : new int[] {4, -1, Integer.MAX_VALUE, Integer.MIN_VALUE}) {
            refuse(10, "plan for " + milestone, INDEX, x -> x.plan(0, milestone));
            refuse(12, "changeDate of " + milestone, INDEX, x -> x.changeDate(milestone, 5));
            refuse(57, "dateOf " + milestone, INDEX, x -> x.dateOf(milestone));
            refuse(58, "pointsLeft " + milestone, INDEX, x -> x.pointsLeft(milestone));
            refuse(59, "pointsDone " + milestone, INDEX, x -> x.pointsDone(milestone));
            refuse(60, "hundredthsDone " + milestone, INDEX, x -> x.hundredthsDone(milestone));
            refuse(61, "isLate " + milestone, INDEX, x -> x.isLate(milestone));
            refuse(62, "misplanned " + milestone, INDEX, x -> x.misplanned(milestone));
        }
    }

    private static void severalExceptionsApply() {
        TicketChains full = withTickets(1, 2, 3, 4, 5, 6, 7, 8, 9, 10, 11, 12, 13, 1, 2, 3, 4, 5, 6, 7);
        dueArgument(full, "openTicket with wrong points, full", () -> full.openTicket(14, 1));
        dueArgument(full, "openTicket with a wrong priority, full", () -> full.openTicket(1, 4));
        refuse(3, "no ticket, wrong points", INDEX, x -> x.reestimate(12, 0));
        refuse(3, "closed, wrong points", ARGUMENT, x -> x.reestimate(5, 0));
        refuse(3, "dropped, wrong points", ARGUMENT, x -> x.reestimate(7, 14));
        refuse(3, "above the capacity, wrong points", ARGUMENT, x -> x.reestimate(1, 14));
        refuse(4, "no ticket, wrong priority", INDEX, x -> x.changePriority(-1, 4));
        refuse(5, "no ticket, both the same", INDEX, x -> x.need(12, 12));
        refuse(5, "a closed one needs no ticket", INDEX, x -> x.need(5, 12));
        refuse(5, "a dropped one needs no ticket", INDEX, x -> x.need(7, -1));
        refuse(5, "closed, both the same", ARGUMENT, x -> x.need(5, 5));
        refuse(7, "no ticket, no owner", INDEX, x -> x.assign(12, 5));
        refuse(7, "closed, no owner", INDEX, x -> x.assign(5, 5));
        refuse(7, "dropped, no owner", INDEX, x -> x.assign(7, -1));
        refuse(9, "no owner, wrong capacity", INDEX, x -> x.changeCapacity(5, 100));
        refuse(9, "no owner, capacity below 0", INDEX, x -> x.changeCapacity(-1, -1));
        refuse(9, "load above a capacity below 0", ARGUMENT, x -> x.changeCapacity(0, -1));
        refuse(10, "closed, no milestone", INDEX, x -> x.plan(6, 4));
        refuse(10, "dropped, no milestone", INDEX, x -> x.plan(7, -1));
        refuse(12, "no milestone, wrong day", INDEX, x -> x.changeDate(4, 1000));
        refuse(12, "no milestone, day below 0", INDEX, x -> x.changeDate(-1, -1));
        refuseOn(onDay(999), onDay(999), "13: 31 days on the day 999", ARGUMENT, x -> x.endDays(31));
        refuseOn(withTickets(1), withTickets(1), "26: goBack(2), all slots empty", ARGUMENT, x -> x.goBack(2));
    }

    private static void severalExceptionsApplyToTexts() {
        buffer = "e1;".repeat(20);
        refuse(20, "a wrong character to 60 characters", ARGUMENT, x -> x.append(127));
        refuse(20, "another wrong character to 60 characters", ARGUMENT, x -> x.append(32));
        buffer = "s0;";
        refuse(23, "an impossible order, and no orders as a text", ARGUMENT, TicketChains::follow);
        buffer = "e1;";
        refuse(24, "all possible, and no orders as a text", ARGUMENT, TicketChains::impossibleOrder);
        buffer = "e1";
    }

    /** No "Throws" of the document may be left out here. */
    private static void eachThrowsOfTheDocument(Path document) throws Exception {
        Set<String> want = new TreeSet<>();
        String promise = "";
        for (String line : Files.readAllLines(document)) {
            if (line.startsWith("## ")) {
                promise = line.startsWith("## Promise ") ? line.substring(11, line.indexOf(':')) : "";
            } else if (line.startsWith("Throws `") && !promise.isEmpty()) {
                want.add(promise + " " + line.substring(8, line.indexOf('`', 8)));
            }
        }
        dueText("promises and what they throw", String.join("\n", refused), String.join("\n", want));
    }
}
