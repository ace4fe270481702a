/** Promises 64 to 74: what to do, the order of closing, accounts. */
final class AccountsTest extends Due {
    public static void main(String[] args) {
        promise64NextToDo();
        promise64NextToDoWithStates();
        promise65ClosedAt();
        promise65ClosedAtWithNeeds();
        promise66Day();
        promises67And68States();
        promise69AllPoints();
        promise70BlockedTickets();
        promises71And72Counts();
        promise73PointsOfWeek();
        promise74MeanDays();
        promises66To74Empty();
        promises65To70OfTwenty();
        promise73OnTheLastDays();
        promise74FewAndMany();
        end("AccountsTest");
    }

    private static void promise64NextToDo() {
        TicketChains x = new TicketChains();
        dueState(x, "nextToDo without tickets", x::nextToDo);
        x.openTicket(5, 1);
        due("nextToDo, one", x.nextToDo(), 0);
        x.openTicket(5, 1);
        due("nextToDo, the lowest of equal ones", x.nextToDo(), 0);
        x.openTicket(4, 1);
        due("nextToDo, the fewest points", x.nextToDo(), 2);
        x.openTicket(13, 2);
        due("nextToDo, the highest priority", x.nextToDo(), 3);
        x.openTicket(1, 0);
        due("nextToDo, not the lowest priority", x.nextToDo(), 3);
        x.need(3, 4);
        due("nextToDo, not a blocked one", x.nextToDo(), 2);
        x.drop(4);
        due("nextToDo, not blocked any more", x.nextToDo(), 3);
    }

    private static void promise64NextToDoWithStates() {
        TicketChains x = withTickets(1, 2, 3, 4);
        x.assign(0, 0);
        due("nextToDo with an owner", x.nextToDo(), 0);
        x.start(0);
        due("nextToDo, not in progress", x.nextToDo(), 1);
        x.submit(0);
        due("nextToDo, not in review", x.nextToDo(), 1);
        x.close(0);
        due("nextToDo, not closed", x.nextToDo(), 1);
        x.drop(1);
        due("nextToDo, not dropped", x.nextToDo(), 2);
        x.assign(3, 0);
        x.start(3);
        x.need(2, 3);
        dueState(x, "nextToDo, all are blocked or not open", x::nextToDo);
        x.reopen(0);
        due("nextToDo, opened again", x.nextToDo(), 0);
    }

    private static void dueOrder(TicketChains x, String when, int... want) {
        for (int place = 0; place < want.length; place++) {
            due("closedAt " + place + " " + when, x.closedAt(place), want[place]);
        }
        dueIndex(x, "closedAt behind all " + when, () -> x.closedAt(want.length));
        dueIndex(x, "closedAt(-1) " + when, () -> x.closedAt(-1));
        dueIndex(x, "closedAt(MAX) " + when, () -> x.closedAt(Integer.MAX_VALUE));
        dueIndex(x, "closedAt(MIN) " + when, () -> x.closedAt(Integer.MIN_VALUE));
    }

    private static void promise65ClosedAt() {
        TicketChains x = new TicketChains();
        dueOrder(x, "without tickets");
        x.openTicket(5, 1);
        x.openTicket(4, 1);
        x.openTicket(9, 3);
        x.openTicket(4, 1);
        x.openTicket(1, 0);
        dueOrder(x, "without needs", 2, 1, 3, 0, 4);
        toReview(x, 4, 0);
        dueOrder(x, "with one in review", 2, 1, 3, 0, 4);
        x.close(4);
        dueOrder(x, "with one closed", 2, 1, 3, 0);
        x.drop(1);
        dueOrder(x, "with one dropped", 2, 3, 0);
        x.assign(3, 0);
        x.start(3);
        dueOrder(x, "with one in progress", 2, 3, 0);
    }

    private static void promise65ClosedAtWithNeeds() {
        TicketChains x = new TicketChains();
        for (int ticket = 0; ticket < 5; ticket++) {
            x.openTicket(5 - ticket, ticket % 3);
        }
        dueOrder(x, "without needs", 2, 4, 1, 3, 0);
        x.need(2, 0);
        dueOrder(x, "2 needs 0", 4, 1, 3, 0, 2);
        x.need(4, 2);
        dueOrder(x, "4 needs 2", 1, 3, 0, 2, 4);
        x.need(0, 1);
        x.need(3, 4);
        dueOrder(x, "0 needs 1, 3 needs 4", 1, 0, 2, 4, 3);
        x.drop(0);
        dueOrder(x, "0 is dropped", 2, 4, 1, 3);
    }

    private static void promise66Day() {
        TicketChains x = new TicketChains();
        x.endDays(30);
        x.endDays(4);
        due("day", x.day(), 34);
        x.undo();
        due("day behind undo", x.day(), 30);
    }

    private static void promises67And68States() {
        TicketChains x = withTickets(1, 2, 3, 4, 5, 6, 7);
        x.assign(1, 0);
        x.start(1);
        x.assign(2, 0);
        x.start(2);
        toReview(x, 3, 1);
        toClosed(x, 4, 2);
        x.drop(5);
        int[] counts = {2, 2, 1, 1, 1};
        int[] points = {8, 5, 4, 5, 6};
        for (int state = 0; state < 5; state++) {
            due("withState " + state, x.withState(state), counts[state]);
            due("pointsWith " + state, x.pointsWith(state), points[state]);
        }
        int[] wrong = {-1, 5, Integer.MAX_VALUE, Integer.MIN_VALUE};
        for (int state : wrong) {
            dueArgument(x, "withState " + state, () -> x.withState(state));
            dueArgument(x, "pointsWith " + state, () -> x.pointsWith(state));
        }
    }

    private static void promise69AllPoints() {
        TicketChains x = withTickets(1, 2, 4, 8);
        due("allPoints", x.allPoints(), 15);
        x.drop(0);
        toClosed(x, 1, 0);
        due("allPoints, whatever the states", x.allPoints(), 15);
        x.reestimate(3, 9);
        due("allPoints, one more", x.allPoints(), 16);
    }

    private static void promise70BlockedTickets() {
        TicketChains x = withTickets(1, 1, 1, 1, 1);
        due("blockedTickets, none", x.blockedTickets(), 0);
        x.need(0, 1);
        x.need(0, 2);
        x.need(1, 2);
        x.need(3, 4);
        due("blockedTickets", x.blockedTickets(), 3);
        x.drop(3);
        due("blockedTickets, a dropped one does not count", x.blockedTickets(), 2);
        toReview(x, 0, 0);
        due("blockedTickets, in review", x.blockedTickets(), 2);
        toClosed(x, 2, 0);
        due("blockedTickets, one closed", x.blockedTickets(), 1);
    }

    private static void promises71And72Counts() {
        TicketChains x = withTickets(1, 1);
        toClosed(x, 0, 0);
        toClosed(x, 1, 0);
        x.reopen(1);
        x.start(1);
        x.submit(1);
        due("closings", x.closings(), 2);
        x.close(1);
        due("closings, again", x.closings(), 3);
        due("reopenings", x.reopenings(), 1);
        x.reopen(0);
        due("reopenings, again", x.reopenings(), 2);
        x.drop(0);
        due("closings, one dropped", x.closings(), 3);
        x.undo();
        x.undo();
        due("reopenings, undone", x.reopenings(), 1);
        x.undo();
        due("closings, undone", x.closings(), 2);
    }

    private static void promise73PointsOfWeek() {
        TicketChains x = withTickets(1, 2, 4);
        toClosed(x, 0, 0);
        due("pointsOfWeek on the day", x.pointsOfWeek(), 1);
        x.endDays(5);
        toClosed(x, 1, 0);
        due("pointsOfWeek of two", x.pointsOfWeek(), 3);
        x.endDays(1);
        due("pointsOfWeek, 6 days ahead", x.pointsOfWeek(), 3);
        x.endDays(1);
        due("pointsOfWeek, 7 days ahead", x.pointsOfWeek(), 2);
        x.drop(2);
        due("pointsOfWeek, one dropped", x.pointsOfWeek(), 2);
        x.reopen(1);
        due("pointsOfWeek, one opened again", x.pointsOfWeek(), 0);
        x.endDays(30);
        x.start(1);
        x.submit(1);
        x.close(1);
        due("pointsOfWeek, closed again", x.pointsOfWeek(), 2);
    }

    private static void promise74MeanDays() {
        TicketChains x = withTickets(1, 1, 1, 1);
        dueDouble("meanDays without any", x.meanDays(), 0.0);
        for (int ticket = 0; ticket < 4; ticket++) {
            x.assign(ticket, ticket);
            x.start(ticket);
            x.endDays(1);
        }
        dueDouble("meanDays, none closed", x.meanDays(), 0.0);
        x.submit(3);
        x.close(3);
        dueDouble("meanDays of 1", x.meanDays(), 1.0);
        x.submit(1);
        x.close(1);
        dueDouble("meanDays of 1 and 3", x.meanDays(), 2.0);
        x.submit(0);
        x.close(0);
        dueDouble("meanDays of 1, 3 and 4", x.meanDays(), 8.0 / 3.0);
        x.drop(2);
        dueDouble("meanDays, one dropped", x.meanDays(), 8.0 / 3.0);
        x.reopen(0);
        dueDouble("meanDays, one opened again", x.meanDays(), 2.0);
        TicketChains quick = withTickets(1);
        toClosed(quick, 0, 0);
        dueDouble("meanDays without days", quick.meanDays(), 0.0);
    }

    private static void promises66To74Empty() {
        TicketChains x = new TicketChains();
        due("day", x.day(), 0);
        for (int state = 0; state < 5; state++) {
            due("withState " + state, x.withState(state), 0);
            due("pointsWith " + state, x.pointsWith(state), 0);
        }
        due("allPoints", x.allPoints(), 0);
        due("blockedTickets", x.blockedTickets(), 0);
        due("closings", x.closings(), 0);
        due("reopenings", x.reopenings(), 0);
        due("pointsOfWeek", x.pointsOfWeek(), 0);
        dueDouble("meanDays", x.meanDays(), 0.0);
        endDaysTo(x, 999);
        due("the last day", x.day(), 999);
    }

    private static void promises65To70OfTwenty() {
        TicketChains x = withTwenty(13);
        int[] order = new int[20];
        for (int ticket = 0; ticket < 20; ticket++) {
            order[ticket] = ticket;
        }
        dueOrder(x, "of twenty equal ones", order);
        due("nextToDo of twenty equal ones", x.nextToDo(), 0);
        for (int ticket = 0; ticket < 19; ticket++) {
            x.need(ticket, ticket + 1);
            order[19 - ticket] = ticket;
        }
        order[0] = 19;
        dueOrder(x, "of a chain of twenty", order);
        due("nextToDo of a chain of twenty", x.nextToDo(), 19);
        due("blockedTickets", x.blockedTickets(), 19);
        due("withState(0)", x.withState(0), 20);
        due("pointsWith(0)", x.pointsWith(0), 260);
        due("allPoints", x.allPoints(), 260);
        for (int ticket = 19; ticket >= 0; ticket--) {
            due("withState(3)", x.withState(3), 19 - ticket);
            due("blockedTickets, some closed", x.blockedTickets(), ticket);
            due("nextToDo, some closed", x.nextToDo(), ticket);
            toClosed(x, ticket, 2);
        }
        due("pointsWith(3)", x.pointsWith(3), 260);
        due("pointsOfWeek", x.pointsOfWeek(), 260);
        due("closings", x.closings(), 20);
        dueState(x, "nextToDo, all are closed", x::nextToDo);
        dueOrder(x, "of twenty closed ones");
    }

    private static void promise73OnTheLastDays() {
        TicketChains x = withTickets(1, 2, 4);
        endDaysTo(x, 992);
        toClosed(x, 0, 0);
        x.endDays(1);
        toClosed(x, 1, 0);
        x.endDays(5);
        due("closed 5 and 6 days ahead", x.pointsOfWeek(), 3);
        x.endDays(1);
        due("closed 6 and 7 days ahead", x.pointsOfWeek(), 2);
        toClosed(x, 2, 0);
        due("closed on the last day", x.pointsOfWeek(), 6);
        TicketChains first = withTickets(5);
        toClosed(first, 0, 0);
        first.endDays(6);
        due("closed on the day 0, told on the day 6", first.pointsOfWeek(), 5);
        first.endDays(1);
        due("closed on the day 0, told on the day 7", first.pointsOfWeek(), 0);
        first.reopen(0);
        first.start(0);
        first.submit(0);
        first.close(0);
        due("the last closing counts", first.pointsOfWeek(), 5);
    }

    private static void promise74FewAndMany() {
        TicketChains x = withTwenty(1);
        x.assign(0, 0);
        x.start(0);
        endDaysTo(x, 999);
        x.submit(0);
        x.close(0);
        dueDouble("meanDays of 999", x.meanDays(), 999.0);
        for (int ticket = 1; ticket < 20; ticket++) {
            toClosed(x, ticket, 0);
            dueDouble("meanDays of 999 in " + (ticket + 1), x.meanDays(), 999.0 / (ticket + 1));
        }
        x.reopen(0);
        dueDouble("meanDays of 19 without days", x.meanDays(), 0.0);
        x.start(0);
        x.submit(0);
        x.close(0);
        dueDouble("the days stay", x.meanDays(), 999.0 / 20.0);
    }
}
