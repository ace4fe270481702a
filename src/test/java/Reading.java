/** All that the queries of a tracker answer, as a text: what a snapshot has to bring back. */
final class Reading {
    private final TicketChains x;
    private final StringBuilder text = new StringBuilder();

    private interface Query {
        Object answer();
    }

    private Reading(TicketChains x) {
        this.x = x;
    }

    static String of(TicketChains x) {
        Reading reading = new Reading(x);
        reading.putAll();
        for (int ticket = 0; ticket < x.tickets(); ticket++) {
            reading.putTicket(ticket);
        }
        for (int owner = 0; owner < 5; owner++) {
            reading.putOwner(owner);
        }
        for (int milestone = 0; milestone < 4; milestone++) {
            reading.putMilestone(milestone);
        }
        return reading.text.toString();
    }

    private void put(String name, Query query) {
        Object answer;
        try {
            answer = query.answer();
        } catch (RuntimeException e) {
            answer = e.getClass().getSimpleName();
        }
        text.append(name).append(' ').append(answer).append('\n');
    }

    private void putAll() {
        put("tickets", x::tickets);
        put("criticalByTrying", x::criticalByTrying);
        put("criticalByOrder", x::criticalByOrder);
        put("freestOwner", x::freestOwner);
        put("lateMilestones", x::lateMilestones);
        put("nextToDo", x::nextToDo);
        for (int place = 0; place < 21; place++) {
            int at = place;
            put("closedAt " + at, () -> x.closedAt(at));
        }
        put("day", x::day);
        for (int state = 0; state < 5; state++) {
            int of = state;
            put("withState " + of, () -> x.withState(of));
            put("pointsWith " + of, () -> x.pointsWith(of));
        }
        put("allPoints", x::allPoints);
        put("blockedTickets", x::blockedTickets);
        put("closings", x::closings);
        put("reopenings", x::reopenings);
        put("pointsOfWeek", x::pointsOfWeek);
        put("meanDays", x::meanDays);
    }

    private void putTicket(int ticket) {
        String of = " of " + ticket;
        put("stateOf" + of, () -> x.stateOf(ticket));
        put("pointsOf" + of, () -> x.pointsOf(ticket));
        put("priorityOf" + of, () -> x.priorityOf(ticket));
        put("hasOwner" + of, () -> x.hasOwner(ticket));
        put("ownerOf" + of, () -> x.ownerOf(ticket));
        put("isPlanned" + of, () -> x.isPlanned(ticket));
        put("milestoneOf" + of, () -> x.milestoneOf(ticket));
        put("openedOn" + of, () -> x.openedOn(ticket));
        put("closedOn" + of, () -> x.closedOn(ticket));
        put("daysInProgress" + of, () -> x.daysInProgress(ticket));
        put("timesSentBack" + of, () -> x.timesSentBack(ticket));
        put("needsOf" + of, () -> x.needsOf(ticket));
        put("neededBy" + of, () -> x.neededBy(ticket));
        put("isBlocked" + of, () -> x.isBlocked(ticket));
        put("blockersOf" + of, () -> x.blockersOf(ticket));
        put("allNeedsByGoing" + of, () -> x.allNeedsByGoing(ticket));
        put("allNeedsByTable" + of, () -> x.allNeedsByTable(ticket));
        put("chainOf" + of, () -> x.chainOf(ticket));
        for (int other = 0; other < x.tickets(); other++) {
            int needed = other;
            put("needs " + needed + of, () -> x.needs(ticket, needed));
        }
    }

    private void putOwner(int owner) {
        String of = " of owner " + owner;
        put("capacityOf" + of, () -> x.capacityOf(owner));
        put("loadByTickets" + of, () -> x.loadByTickets(owner));
        put("loadByAccount" + of, () -> x.loadByAccount(owner));
        put("inProgressOf" + of, () -> x.inProgressOf(owner));
        put("donePointsOf" + of, () -> x.donePointsOf(owner));
    }

    private void putMilestone(int milestone) {
        String of = " of milestone " + milestone;
        put("dateOf" + of, () -> x.dateOf(milestone));
        put("pointsLeft" + of, () -> x.pointsLeft(milestone));
        put("pointsDone" + of, () -> x.pointsDone(milestone));
        put("hundredthsDone" + of, () -> x.hundredthsDone(milestone));
        put("isLate" + of, () -> x.isLate(milestone));
        put("misplanned" + of, () -> x.misplanned(milestone));
    }
}
