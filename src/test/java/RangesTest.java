/**
 * Each range that the document names: the first and the last number of it answer, and the numbers next to them are
 * refused, in trackers with 1, 2 and 20 tickets.
 */
final class RangesTest extends Due {
    private static final Class<IndexOutOfBoundsException> INDEX = IndexOutOfBoundsException.class;
    private static final Class<IllegalArgumentException> ARGUMENT = IllegalArgumentException.class;

    private interface OnNumber {
        void call(TicketChains x, int number);
    }

    public static void main(String[] args) {
        for (int count : new int[] {1, 2, 20}) {
            ticketsThatAreChanged(count);
            statesOfTickets(count);
            ticketsAsTheyAre(count);
            placesOfClosing(count);
        }
        ticketsThatNeed(2);
        ticketsThatNeed(3);
        ticketsThatNeed(20);
        owners();
        milestones();
        numbersOfTickets();
        otherNumbers();
        end("RangesTest");
    }

    /** The tracker is made anew for each number. */
    private abstract static class Range {
        abstract TicketChains fresh();

        void inside(String call, int low, int high, Class<? extends RuntimeException> outside, OnNumber made) {
            for (int number : new int[] {low, high}) {
                String got = thrown(fresh(), number, made);
                dueText(call + ", " + number + " throws", got, "nothing");
            }
            for (int number : new int[] {low - 1, high + 1, Integer.MIN_VALUE, Integer.MAX_VALUE}) {
                TicketChains x = fresh();
                dueThrow(x, call + ", " + number, outside, () -> made.call(x, number));
            }
        }

        private static String thrown(TicketChains x, int number, OnNumber made) {
            try {
                made.call(x, number);
            } catch (RuntimeException e) {
                return e.getClass().getName();
            }
            return "nothing";
        }
    }

    /** So many open tickets; all are brought to a state, with an owner and a milestone if it is so wanted. */
    private static final class Tickets extends Range {
        private final int count;
        private final int state;
        private final boolean given;

        Tickets(int count, int state, boolean given) {
            this.count = count;
            this.state = state;
            this.given = given;
        }

        @Override
        TicketChains fresh() {
            TicketChains x = new TicketChains();
            for (int ticket = 0; ticket < count; ticket++) {
                x.openTicket(1, 1);
                if (given) {
                    x.plan(ticket, ticket % 4);
                    bring(x, ticket);
                }
            }
            return x;
        }

        private void bring(TicketChains x, int ticket) {
            x.assign(ticket, ticket % 5);
            if (state >= 1) {
                x.start(ticket);
            }
            if (state >= 2) {
                x.submit(ticket);
            }
            if (state >= 3) {
                x.close(ticket);
            }
        }
    }

    private static void ticketsThatAreChanged(int count) {
        int last = count - 1;
        String of = " of " + count;
        Range open = new Tickets(count, 0, false);
        Range given = new Tickets(count, 0, true);
        open.inside("reestimate" + of, 0, last, INDEX, (x, ticket) -> x.reestimate(ticket, 2));
        open.inside("changePriority" + of, 0, last, INDEX, (x, ticket) -> x.changePriority(ticket, 2));
        open.inside("assign" + of, 0, last, INDEX, (x, ticket) -> x.assign(ticket, 3));
        given.inside("unassign" + of, 0, last, INDEX, TicketChains::unassign);
        open.inside("plan" + of, 0, last, INDEX, (x, ticket) -> x.plan(ticket, 3));
        given.inside("unplan" + of, 0, last, INDEX, TicketChains::unplan);
    }

    private static void statesOfTickets(int count) {
        int last = count - 1;
        String of = " of " + count;
        new Tickets(count, 0, true).inside("start" + of, 0, last, INDEX, TicketChains::start);
        new Tickets(count, 1, true).inside("submit" + of, 0, last, INDEX, TicketChains::submit);
        new Tickets(count, 2, true).inside("sendBack" + of, 0, last, INDEX, TicketChains::sendBack);
        new Tickets(count, 2, true).inside("close" + of, 0, last, INDEX, TicketChains::close);
        new Tickets(count, 3, true).inside("reopen" + of, 0, last, INDEX, TicketChains::reopen);
        new Tickets(count, 0, false).inside("drop" + of, 0, last, INDEX, TicketChains::drop);
    }

    private static void ticketsAsTheyAre(int count) {
        int last = count - 1;
        String of = " of " + count;
        Range given = new Tickets(count, 1, true);
        given.inside("stateOf" + of, 0, last, INDEX, TicketChains::stateOf);
        given.inside("pointsOf" + of, 0, last, INDEX, TicketChains::pointsOf);
        given.inside("priorityOf" + of, 0, last, INDEX, TicketChains::priorityOf);
        given.inside("hasOwner" + of, 0, last, INDEX, TicketChains::hasOwner);
        given.inside("ownerOf" + of, 0, last, INDEX, TicketChains::ownerOf);
        given.inside("isPlanned" + of, 0, last, INDEX, TicketChains::isPlanned);
        given.inside("milestoneOf" + of, 0, last, INDEX, TicketChains::milestoneOf);
        given.inside("openedOn" + of, 0, last, INDEX, TicketChains::openedOn);
        new Tickets(count, 3, true).inside("closedOn" + of, 0, last, INDEX, TicketChains::closedOn);
        given.inside("daysInProgress" + of, 0, last, INDEX, TicketChains::daysInProgress);
        given.inside("timesSentBack" + of, 0, last, INDEX, TicketChains::timesSentBack);
        given.inside("needs" + of, 0, last, INDEX, (x, ticket) -> x.needs(ticket, 0));
        given.inside("needs 0" + of, 0, last, INDEX, (x, ticket) -> x.needs(0, ticket));
        given.inside("needsOf" + of, 0, last, INDEX, TicketChains::needsOf);
        given.inside("neededBy" + of, 0, last, INDEX, TicketChains::neededBy);
        given.inside("isBlocked" + of, 0, last, INDEX, TicketChains::isBlocked);
        given.inside("blockersOf" + of, 0, last, INDEX, TicketChains::blockersOf);
        given.inside("allNeedsByGoing" + of, 0, last, INDEX, TicketChains::allNeedsByGoing);
        given.inside("allNeedsByTable" + of, 0, last, INDEX, TicketChains::allNeedsByTable);
        given.inside("chainOf" + of, 0, last, INDEX, TicketChains::chainOf);
    }

    private static void placesOfClosing(int count) {
        new Tickets(count, 2, true).inside("closedAt of " + count, 0, count - 1, INDEX, TicketChains::closedAt);
    }

    /** The ticket 1 needs all others. */
    private static final class Needs extends Range {
        private final int count;

        Needs(int count) {
            this.count = count;
        }

        @Override
        TicketChains fresh() {
            TicketChains x = new Tickets(count, 0, false).fresh();
            for (int needed = 0; needed < count; needed++) {
                if (needed != 1) {
                    x.need(1, needed);
                }
            }
            return x;
        }
    }

    private static void ticketsThatNeed(int count) {
        int last = count - 1;
        String of = " of " + count;
        int middle = 1;
        Range open = new Tickets(count, 0, false);
        if (count > 2) {
            open.inside("need" + of, 0, last, INDEX, (x, ticket) -> x.need(ticket, middle));
            open.inside("needed" + of, 0, last, INDEX, (x, needed) -> x.need(middle, needed));
            new Needs(count).inside("released" + of, 0, last, INDEX, (x, needed) -> x.release(middle, needed));
        }
        for (int needing : new int[] {0, last}) {
            int needed = last - needing;
            TicketChains x = open.fresh();
            due("need" + of, x.need(needing, needed), 1);
            dueIndex(x, "release, none such" + of, () -> x.release(count, needed));
            dueIndex(x, "release below 0" + of, () -> x.release(-1, needed));
            due("release" + of, x.release(needing, needed), 0);
        }
    }

    private static void owners() {
        Range open = new Tickets(1, 0, false);
        open.inside("assign to", 0, 4, INDEX, (x, owner) -> x.assign(0, owner));
        open.inside("changeCapacity of", 0, 4, INDEX, (x, owner) -> x.changeCapacity(owner, 5));
        open.inside("capacityOf", 0, 4, INDEX, TicketChains::capacityOf);
        open.inside("loadByTickets", 0, 4, INDEX, TicketChains::loadByTickets);
        open.inside("loadByAccount", 0, 4, INDEX, TicketChains::loadByAccount);
        open.inside("inProgressOf", 0, 4, INDEX, TicketChains::inProgressOf);
        open.inside("donePointsOf", 0, 4, INDEX, TicketChains::donePointsOf);
    }

    private static void milestones() {
        Range open = new Tickets(1, 0, false);
        open.inside("plan for", 0, 3, INDEX, (x, milestone) -> x.plan(0, milestone));
        open.inside("changeDate of", 0, 3, INDEX, (x, milestone) -> x.changeDate(milestone, 5));
        open.inside("dateOf", 0, 3, INDEX, TicketChains::dateOf);
        open.inside("pointsLeft", 0, 3, INDEX, TicketChains::pointsLeft);
        open.inside("pointsDone", 0, 3, INDEX, TicketChains::pointsDone);
        open.inside("hundredthsDone", 0, 3, INDEX, TicketChains::hundredthsDone);
        open.inside("isLate", 0, 3, INDEX, TicketChains::isLate);
        open.inside("misplanned", 0, 3, INDEX, TicketChains::misplanned);
    }

    private static void numbersOfTickets() {
        for (int count : new int[] {0, 1, 19}) {
            Range open = new Tickets(count, 0, false);
            open.inside("points of the ticket " + count, 1, 13, ARGUMENT, (x, points) -> x.openTicket(points, 0));
            open.inside("priority of the ticket " + count, 0, 3, ARGUMENT, (x, priority) -> x.openTicket(13, priority));
        }
        Range one = new Tickets(1, 0, true);
        one.inside("reestimate to", 1, 13, ARGUMENT, (x, points) -> x.reestimate(0, points));
        one.inside("changePriority to", 0, 3, ARGUMENT, (x, priority) -> x.changePriority(0, priority));
    }

    private static void otherNumbers() {
        Range none = new Tickets(0, 0, false);
        none.inside("changeCapacity to", 0, 99, ARGUMENT, (x, capacity) -> x.changeCapacity(2, capacity));
        none.inside("changeDate to", 0, 999, ARGUMENT, (x, day) -> x.changeDate(2, day));
        none.inside("endDays", 1, 30, ARGUMENT, TicketChains::endDays);
        none.inside("append", 33, 126, ARGUMENT, TicketChains::append);
        none.inside("keep", 0, 1, ARGUMENT, TicketChains::keep);
        none.inside("withState", 0, 4, ARGUMENT, TicketChains::withState);
        none.inside("pointsWith", 0, 4, ARGUMENT, TicketChains::pointsWith);
        Range kept = new Range() {
            @Override
            TicketChains fresh() {
                TicketChains x = new TicketChains();
                x.keep(0);
                x.keep(1);
                return x;
            }
        };
        kept.inside("goBack", 0, 1, ARGUMENT, TicketChains::goBack);
    }
}
