/** Promises 1 to 4 and 29 to 40: a new object, tickets, and tickets as they are. */
final class TicketsTest extends Due {
    public static void main(String[] args) {
        promise1NewObject();
        promise2OpenTicket();
        promise2AtMostTwenty();
        promise3Reestimate();
        promise3ReestimateRefused();
        promise3ReestimateAtTheCapacity();
        promise3ReestimateInEachState();
        promise4ChangePriority();
        promises29To32StateAndPoints();
        promises33And34Owner();
        promises35And36Milestone();
        promises37And38Days();
        promise39DaysInProgress();
        promise40TimesSentBack();
        promises37To39OnTheLastDay();
        promises29To40OfTheTwentieth();
        queriesOfMissingTickets();
        end("TicketsTest");
    }

    private static void promise1NewObject() {
        TicketChains x = new TicketChains();
        due("new: tickets", x.tickets(), 0);
        due("new: savedStates", x.savedStates(), 0);
        due("new: day", x.day(), 0);
        due("new: clearBuffer", x.clearBuffer(), 0);
        dueState(x, "new: goBack(0)", () -> x.goBack(0));
        dueState(x, "new: goBack(1)", () -> x.goBack(1));
        for (int owner = 0; owner < 5; owner++) {
            due("new: capacityOf " + owner, x.capacityOf(owner), 20);
        }
        for (int milestone = 0; milestone < 4; milestone++) {
            due("new: dateOf " + milestone, x.dateOf(milestone), 10 * (milestone + 1));
        }
        TicketChains other = new TicketChains();
        other.openTicket(1, 1);
        due("another object has its own tickets", x.tickets(), 0);
    }

    private static void promise2OpenTicket() {
        TicketChains x = new TicketChains();
        due("openTicket(1,0)", x.openTicket(1, 0), 0);
        due("openTicket(13,3)", x.openTicket(13, 3), 1);
        due("pointsOf(0)", x.pointsOf(0), 1);
        due("pointsOf(1)", x.pointsOf(1), 13);
        due("priorityOf(0)", x.priorityOf(0), 0);
        due("priorityOf(1)", x.priorityOf(1), 3);
        due("savedStates", x.savedStates(), 2);
        dueArgument(x, "openTicket(0,0)", () -> x.openTicket(0, 0));
        dueArgument(x, "openTicket(14,0)", () -> x.openTicket(14, 0));
        dueArgument(x, "openTicket(-1,0)", () -> x.openTicket(-1, 0));
        dueArgument(x, "openTicket(1,-1)", () -> x.openTicket(1, -1));
        dueArgument(x, "openTicket(1,4)", () -> x.openTicket(1, 4));
        dueArgument(x, "openTicket(MIN,MAX)", () -> x.openTicket(Integer.MIN_VALUE, Integer.MAX_VALUE));
        dueUndoable(x, "openTicket", () -> x.openTicket(5, 2));
    }

    private static void promise2AtMostTwenty() {
        TicketChains x = new TicketChains();
        for (int i = 0; i < 20; i++) {
            due("openTicket " + i, x.openTicket(1 + i % 13, i % 4), i);
        }
        dueState(x, "the 21st ticket", () -> x.openTicket(1, 1));
        dueArgument(x, "the 21st ticket with wrong points", () -> x.openTicket(0, 1));
        due("tickets", x.tickets(), 20);
        due("savedStates", x.savedStates(), 6);
    }

    private static void promise3Reestimate() {
        TicketChains x = withTickets(3, 4);
        due("reestimate(0,5)", x.reestimate(0, 5), 3);
        due("reestimate(0,13)", x.reestimate(0, 13), 5);
        due("reestimate(0,1)", x.reestimate(0, 1), 13);
        due("pointsOf(0)", x.pointsOf(0), 1);
        due("pointsOf(1)", x.pointsOf(1), 4);
        x.assign(0, 2);
        due("load before", x.loadByAccount(2), 1);
        x.reestimate(0, 9);
        due("load told by account", x.loadByAccount(2), 9);
        due("load told by tickets", x.loadByTickets(2), 9);
        TicketChains fresh = withTickets(3);
        dueUndoable(fresh, "reestimate", () -> fresh.reestimate(0, 7));
        dueUndoable(fresh, "reestimate to the same", () -> fresh.reestimate(0, 3));
    }

    private static void promise3ReestimateRefused() {
        TicketChains x = withTickets(10, 8, 1, 2);
        dueIndex(x, "reestimate(4,1)", () -> x.reestimate(4, 1));
        dueIndex(x, "reestimate(-1,0)", () -> x.reestimate(-1, 0));
        dueArgument(x, "reestimate(0,0)", () -> x.reestimate(0, 0));
        dueArgument(x, "reestimate(0,14)", () -> x.reestimate(0, 14));
        x.assign(0, 1);
        x.assign(1, 1);
        dueState(x, "reestimate above the capacity", () -> x.reestimate(1, 11));
        due("reestimate to the capacity", x.reestimate(1, 10), 8);
        due("load at the capacity", x.loadByAccount(1), 20);
        toClosed(x, 2, 0);
        dueState(x, "reestimate a closed one", () -> x.reestimate(2, 1));
        dueArgument(x, "reestimate a closed one wrongly", () -> x.reestimate(2, 14));
        x.drop(3);
        dueState(x, "reestimate a dropped one", () -> x.reestimate(3, 2));
    }

    private static void promise4ChangePriority() {
        TicketChains x = withTickets(3, 4);
        due("changePriority(0,3)", x.changePriority(0, 3), 1);
        due("changePriority(0,0)", x.changePriority(0, 0), 3);
        due("priorityOf(0)", x.priorityOf(0), 0);
        due("priorityOf(1)", x.priorityOf(1), 1);
        dueIndex(x, "changePriority(2,9)", () -> x.changePriority(2, 9));
        dueIndex(x, "changePriority(-1,1)", () -> x.changePriority(-1, 1));
        dueArgument(x, "changePriority(0,4)", () -> x.changePriority(0, 4));
        dueArgument(x, "changePriority(0,-1)", () -> x.changePriority(0, -1));
        dueUndoable(x, "changePriority to the same", () -> x.changePriority(0, 0));
        x.drop(1);
        due("changePriority of a dropped one", x.changePriority(1, 2), 1);
        TicketChains closed = withTickets(1);
        toClosed(closed, 0, 0);
        due("changePriority of a closed one", closed.changePriority(0, 0), 1);
    }

    private static void promises29To32StateAndPoints() {
        TicketChains x = withTickets(5, 6);
        due("tickets", x.tickets(), 2);
        due("stateOf: open", x.stateOf(0), 0);
        x.assign(0, 0);
        x.start(0);
        due("stateOf: in progress", x.stateOf(0), 1);
        x.submit(0);
        due("stateOf: in review", x.stateOf(0), 2);
        x.close(0);
        due("stateOf: closed", x.stateOf(0), 3);
        x.drop(1);
        due("stateOf: dropped", x.stateOf(1), 4);
        due("tickets stay", x.tickets(), 2);
    }

    private static void promises33And34Owner() {
        TicketChains x = withTickets(5, 6);
        due("hasOwner at first", x.hasOwner(0), false);
        dueState(x, "ownerOf without one", () -> x.ownerOf(0));
        x.assign(0, 0);
        due("hasOwner 0", x.hasOwner(0), true);
        due("ownerOf 0", x.ownerOf(0), 0);
        x.assign(0, 4);
        due("ownerOf 4", x.ownerOf(0), 4);
        due("hasOwner of the other one", x.hasOwner(1), false);
        x.drop(0);
        due("the owner stays", x.ownerOf(0), 4);
    }

    private static void promises35And36Milestone() {
        TicketChains x = withTickets(5, 6);
        due("isPlanned at first", x.isPlanned(0), false);
        dueState(x, "milestoneOf without one", () -> x.milestoneOf(0));
        x.plan(0, 0);
        due("isPlanned 0", x.isPlanned(0), true);
        due("milestoneOf 0", x.milestoneOf(0), 0);
        x.plan(0, 3);
        due("milestoneOf 3", x.milestoneOf(0), 3);
        due("isPlanned of the other one", x.isPlanned(1), false);
        x.drop(0);
        due("the milestone stays", x.milestoneOf(0), 3);
    }

    private static void promises37And38Days() {
        TicketChains x = withTickets(5);
        x.endDays(7);
        x.openTicket(2, 2);
        due("openedOn(0)", x.openedOn(0), 0);
        due("openedOn(1)", x.openedOn(1), 7);
        dueState(x, "closedOn of an open one", () -> x.closedOn(1));
        toReview(x, 1, 0);
        dueState(x, "closedOn in review", () -> x.closedOn(1));
        x.endDays(3);
        x.close(1);
        due("closedOn(1)", x.closedOn(1), 10);
        x.endDays(2);
        due("closedOn(1) later", x.closedOn(1), 10);
        x.reopen(1);
        dueState(x, "closedOn of one opened again", () -> x.closedOn(1));
        due("openedOn of one opened again", x.openedOn(1), 7);
        x.start(1);
        x.submit(1);
        x.close(1);
        due("closedOn the last time", x.closedOn(1), 12);
        x.drop(0);
        dueState(x, "closedOn of a dropped one", () -> x.closedOn(0));
    }

    private static void promise39DaysInProgress() {
        TicketChains x = withTickets(5, 5);
        x.endDays(1);
        x.assign(0, 0);
        x.endDays(2);
        due("not started", x.daysInProgress(0), 0);
        x.start(0);
        due("just started", x.daysInProgress(0), 0);
        x.endDays(4);
        due("in progress", x.daysInProgress(0), 4);
        x.submit(0);
        x.endDays(8);
        due("in review", x.daysInProgress(0), 4);
        x.sendBack(0);
        x.endDays(16);
        due("sent back", x.daysInProgress(0), 20);
        x.submit(0);
        x.close(0);
        x.endDays(1);
        x.reopen(0);
        x.endDays(1);
        due("closed and opened again", x.daysInProgress(0), 20);
        due("the other one", x.daysInProgress(1), 0);
    }

    private static void promise40TimesSentBack() {
        TicketChains x = withTickets(5, 5);
        toReview(x, 0, 0);
        due("never sent back", x.timesSentBack(0), 0);
        x.sendBack(0);
        x.submit(0);
        x.sendBack(0);
        due("sent back twice", x.timesSentBack(0), 2);
        due("the other one", x.timesSentBack(1), 0);
        x.submit(0);
        x.close(0);
        x.reopen(0);
        due("after it was opened again", x.timesSentBack(0), 2);
    }

    private static void queriesOfMissingTickets() {
        TicketChains x = withTickets(5);
        int[] missing = {1, -1, 20, 19, Integer.MAX_VALUE, Integer.MIN_VALUE};
        for (int ticket : missing) {
            dueIndex(x, "stateOf " + ticket, () -> x.stateOf(ticket));
            dueIndex(x, "pointsOf " + ticket, () -> x.pointsOf(ticket));
            dueIndex(x, "priorityOf " + ticket, () -> x.priorityOf(ticket));
            dueIndex(x, "hasOwner " + ticket, () -> x.hasOwner(ticket));
            dueIndex(x, "ownerOf " + ticket, () -> x.ownerOf(ticket));
            dueIndex(x, "isPlanned " + ticket, () -> x.isPlanned(ticket));
            dueIndex(x, "milestoneOf " + ticket, () -> x.milestoneOf(ticket));
            dueIndex(x, "openedOn " + ticket, () -> x.openedOn(ticket));
            dueIndex(x, "closedOn " + ticket, () -> x.closedOn(ticket));
            dueIndex(x, "daysInProgress " + ticket, () -> x.daysInProgress(ticket));
            dueIndex(x, "timesSentBack " + ticket, () -> x.timesSentBack(ticket));
        }
    }

    private static void promise3ReestimateAtTheCapacity() {
        TicketChains x = withTickets(13, 7, 1, 5);
        x.assign(0, 3);
        x.assign(1, 3);
        due("the load is the capacity", x.loadByAccount(3), 20);
        due("reestimate to the same, at the capacity", x.reestimate(1, 7), 7);
        dueState(x, "reestimate to one more, at the capacity", () -> x.reestimate(1, 8));
        due("reestimate to one fewer, at the capacity", x.reestimate(1, 6), 7);
        due("reestimate to the capacity again", x.reestimate(1, 7), 6);
        due("reestimate to 1", x.reestimate(0, 1), 13);
        due("reestimate to 13", x.reestimate(0, 13), 1);
        for (int owner = 0; owner < 5; owner++) {
            x.changeCapacity(owner, owner == 3 ? 20 : 0);
        }
        due("reestimate without an owner, no capacity anywhere", x.reestimate(2, 13), 1);
        due("reestimate without an owner, again", x.reestimate(2, 12), 13);
        due("the load stays", x.loadByAccount(3), 20);
        x.drop(1);
        due("the dropped one is not in the load", x.loadByAccount(3), 13);
        x.assign(3, 3);
        due("reestimate to the capacity, beside a dropped one", x.reestimate(3, 7), 5);
        dueState(x, "reestimate above it, beside a dropped one", () -> x.reestimate(3, 8));
    }

    private static void promise3ReestimateInEachState() {
        TicketChains x = withTickets(3, 3, 3);
        due("reestimate an open one", x.reestimate(0, 4), 3);
        x.assign(1, 0);
        x.start(1);
        due("reestimate one in progress", x.reestimate(1, 5), 3);
        toReview(x, 2, 0);
        due("reestimate one in review", x.reestimate(2, 6), 3);
        due("the load behind all", x.loadByAccount(0), 11);
        x.close(2);
        dueState(x, "reestimate a closed one to its own points", () -> x.reestimate(2, 6));
        x.reopen(2);
        due("reestimate one opened again", x.reestimate(2, 7), 6);
        x.drop(2);
        dueState(x, "reestimate a dropped one to its own points", () -> x.reestimate(2, 7));
    }

    private static void promises37To39OnTheLastDay() {
        TicketChains x = withTickets(1, 1);
        x.assign(0, 0);
        x.start(0);
        endDaysTo(x, 999);
        due("daysInProgress of all days", x.daysInProgress(0), 999);
        due("openTicket on the last day", x.openTicket(2, 2), 2);
        due("openedOn the last day", x.openedOn(2), 999);
        due("openedOn the first day", x.openedOn(0), 0);
        x.submit(0);
        x.close(0);
        due("closedOn the last day", x.closedOn(0), 999);
        due("daysInProgress of a closed one", x.daysInProgress(0), 999);
        TicketChains first = withTickets(1);
        toClosed(first, 0, 0);
        due("closedOn the first day", first.closedOn(0), 0);
        due("daysInProgress on the first day", first.daysInProgress(0), 0);
    }

    private static void promises29To40OfTheTwentieth() {
        TicketChains x = withTwenty(2);
        due("tickets", x.tickets(), 20);
        x.reestimate(19, 13);
        x.changePriority(19, 3);
        x.plan(19, 3);
        x.assign(19, 4);
        x.start(19);
        x.endDays(2);
        x.submit(19);
        x.sendBack(19);
        due("stateOf(19)", x.stateOf(19), 1);
        due("pointsOf(19)", x.pointsOf(19), 13);
        due("priorityOf(19)", x.priorityOf(19), 3);
        due("ownerOf(19)", x.ownerOf(19), 4);
        due("milestoneOf(19)", x.milestoneOf(19), 3);
        due("openedOn(19)", x.openedOn(19), 0);
        due("daysInProgress(19)", x.daysInProgress(19), 2);
        due("timesSentBack(19)", x.timesSentBack(19), 1);
        due("stateOf(18)", x.stateOf(18), 0);
        due("pointsOf(18)", x.pointsOf(18), 2);
        due("hasOwner(18)", x.hasOwner(18), false);
        due("isPlanned(18)", x.isPlanned(18), false);
    }
}
