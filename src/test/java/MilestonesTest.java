/** Promises 10 to 13 and 57 to 63: milestones and days. */
final class MilestonesTest extends Due {
    public static void main(String[] args) {
        promise10Plan();
        promise11Unplan();
        promises10And11InEachState();
        promise12ChangeDate();
        promise13EndDays();
        promise13LastDay();
        promise13EachWayToTheLastDay();
        promise57DateOf();
        promises58And59Points();
        promise60HundredthsDone();
        promise61IsLate();
        promise62Misplanned();
        promise62MisplannedByDates();
        promise63LateMilestones();
        promises57To63Empty();
        promises58To60OfTwenty();
        promise61FirstAndLastDay();
        promise62OfTwenty();
        promise62EachPairOfMilestones();
        queriesOfMissingMilestones();
        end("MilestonesTest");
    }

    private static void promise10Plan() {
        TicketChains x = withTickets(3, 5, 7, 1, 1);
        due("plan(0,0)", x.plan(0, 0), 3);
        due("plan(1,0)", x.plan(1, 0), 8);
        due("plan(1,3)", x.plan(1, 3), 5);
        due("pointsLeft(0)", x.pointsLeft(0), 3);
        dueIndex(x, "plan(5,0)", () -> x.plan(5, 0));
        dueIndex(x, "plan(-1,0)", () -> x.plan(-1, 0));
        dueIndex(x, "plan(0,4)", () -> x.plan(0, 4));
        dueIndex(x, "plan(0,-1)", () -> x.plan(0, -1));
        dueState(x, "plan(0,0) again", () -> x.plan(0, 0));
        toReview(x, 2, 0);
        due("plan in review", x.plan(2, 3), 12);
        x.close(2);
        dueState(x, "plan a closed one", () -> x.plan(2, 1));
        due("plan beside a closed one", x.plan(3, 3), 6);
        x.drop(4);
        dueState(x, "plan a dropped one", () -> x.plan(4, 1));
        dueIndex(x, "plan a dropped one for none", () -> x.plan(4, 4));
        TicketChains fresh = withTickets(2);
        dueUndoable(fresh, "plan", () -> fresh.plan(0, 1));
    }

    private static void promise11Unplan() {
        TicketChains x = withTickets(3, 5, 7);
        dueIndex(x, "unplan(3)", () -> x.unplan(3));
        dueIndex(x, "unplan(-1)", () -> x.unplan(-1));
        dueState(x, "unplan without a milestone", () -> x.unplan(0));
        x.plan(0, 0);
        x.plan(1, 2);
        x.plan(2, 3);
        dueUndoable(x, "unplan", () -> x.unplan(0));
        due("unplan(0)", x.unplan(0), 0);
        due("isPlanned(0)", x.isPlanned(0), false);
        dueState(x, "unplan again", () -> x.unplan(0));
        toClosed(x, 1, 0);
        dueState(x, "unplan a closed one", () -> x.unplan(1));
        x.reopen(1);
        due("unplan one opened again", x.unplan(1), 2);
        x.drop(2);
        dueState(x, "unplan a dropped one", () -> x.unplan(2));
    }

    private static void promise12ChangeDate() {
        TicketChains x = new TicketChains();
        due("changeDate(0,0)", x.changeDate(0, 0), 10);
        due("changeDate(0,999)", x.changeDate(0, 999), 0);
        due("changeDate(3,5)", x.changeDate(3, 5), 40);
        due("dateOf(0)", x.dateOf(0), 999);
        dueIndex(x, "changeDate(4,-1)", () -> x.changeDate(4, -1));
        dueIndex(x, "changeDate(-1,1)", () -> x.changeDate(-1, 1));
        dueArgument(x, "changeDate(0,-1)", () -> x.changeDate(0, -1));
        dueArgument(x, "changeDate(0,1000)", () -> x.changeDate(0, 1000));
        dueUndoable(x, "changeDate", () -> x.changeDate(1, 1));
        dueUndoable(x, "changeDate to the same", () -> x.changeDate(1, 20));
        x.endDays(30);
        due("changeDate to a day that is over", x.changeDate(2, 1), 30);
    }

    private static void promise13EndDays() {
        TicketChains x = withTickets(3, 5);
        x.assign(0, 0);
        x.start(0);
        due("endDays(1)", x.endDays(1), 1);
        due("endDays(30)", x.endDays(30), 31);
        due("day", x.day(), 31);
        due("daysInProgress(0)", x.daysInProgress(0), 31);
        due("daysInProgress(1)", x.daysInProgress(1), 0);
        dueArgument(x, "endDays(0)", () -> x.endDays(0));
        dueArgument(x, "endDays(31)", () -> x.endDays(31));
        dueArgument(x, "endDays(-1)", () -> x.endDays(-1));
        dueArgument(x, "endDays(MAX)", () -> x.endDays(Integer.MAX_VALUE));
        dueUndoable(x, "endDays", () -> x.endDays(3));
    }

    private static void promise13LastDay() {
        TicketChains x = new TicketChains();
        for (int i = 0; i < 33; i++) {
            x.endDays(30);
        }
        dueState(x, "endDays above 999", () -> x.endDays(10));
        due("endDays to 999", x.endDays(9), 999);
        dueState(x, "endDays behind 999", () -> x.endDays(1));
        dueArgument(x, "endDays(31) behind 999", () -> x.endDays(31));
        due("day", x.day(), 999);
    }

    private static void promise57DateOf() {
        TicketChains x = new TicketChains();
        x.changeDate(1, 7);
        int[] dates = {10, 7, 30, 40};
        for (int milestone = 0; milestone < 4; milestone++) {
            due("dateOf " + milestone, x.dateOf(milestone), dates[milestone]);
        }
    }

    private static void promises58And59Points() {
        TicketChains x = withTickets(1, 2, 4, 8, 3);
        for (int ticket = 0; ticket < 4; ticket++) {
            x.plan(ticket, 2);
        }
        due("pointsLeft(2)", x.pointsLeft(2), 15);
        due("pointsDone(2)", x.pointsDone(2), 0);
        due("pointsLeft(1)", x.pointsLeft(1), 0);
        toReview(x, 1, 0);
        due("pointsLeft(2), one in review", x.pointsLeft(2), 15);
        due("pointsDone(2), one in review", x.pointsDone(2), 0);
        x.close(1);
        due("pointsLeft(2), one closed", x.pointsLeft(2), 13);
        due("pointsDone(2), one closed", x.pointsDone(2), 2);
        x.drop(0);
        due("pointsLeft(2), one dropped", x.pointsLeft(2), 12);
        due("pointsDone(2), one dropped", x.pointsDone(2), 2);
        toClosed(x, 4, 1);
        due("pointsDone(2), one closed that is not planned", x.pointsDone(2), 2);
        x.reopen(1);
        due("pointsLeft(2), one opened again", x.pointsLeft(2), 14);
        due("pointsDone(2), one opened again", x.pointsDone(2), 0);
    }

    private static void promise60HundredthsDone() {
        TicketChains x = withTickets(1, 2, 3, 13);
        due("hundredthsDone without points", x.hundredthsDone(0), 100);
        x.plan(0, 0);
        due("hundredthsDone of none done", x.hundredthsDone(0), 0);
        x.plan(1, 0);
        toClosed(x, 0, 0);
        due("hundredthsDone of 1 in 3, rounded down", x.hundredthsDone(0), 33);
        toClosed(x, 1, 0);
        due("hundredthsDone of all", x.hundredthsDone(0), 100);
        x.plan(2, 0);
        due("hundredthsDone of 3 in 6", x.hundredthsDone(0), 50);
        x.plan(3, 0);
        due("hundredthsDone of 3 in 19, rounded down", x.hundredthsDone(0), 15);
        x.drop(3);
        due("hundredthsDone without the dropped one", x.hundredthsDone(0), 50);
        x.reopen(0);
        due("hundredthsDone of 2 in 6, rounded down", x.hundredthsDone(0), 33);
        x.plan(0, 1);
        x.drop(0);
        due("hundredthsDone of dropped ones alone", x.hundredthsDone(1), 100);
    }

    private static void promise61IsLate() {
        TicketChains x = withTickets(1, 2);
        x.plan(0, 0);
        due("isLate at first", x.isLate(0), false);
        x.endDays(10);
        due("isLate on the day", x.isLate(0), false);
        x.endDays(1);
        due("isLate behind the day", x.isLate(0), true);
        due("isLate without tickets", x.isLate(1), false);
        x.endDays(10);
        due("isLate without tickets, over", x.isLate(1), false);
        toClosed(x, 0, 0);
        due("isLate with all done", x.isLate(0), false);
        x.reopen(0);
        due("isLate with one opened again", x.isLate(0), true);
        x.changeDate(0, 21);
        due("isLate with another day", x.isLate(0), false);
        x.changeDate(0, 20);
        x.drop(0);
        due("isLate with one dropped", x.isLate(0), false);
    }

    private static void promise62Misplanned() {
        TicketChains x = withTickets(1, 1, 1, 1, 1);
        x.plan(0, 1);
        x.need(0, 1);
        due("misplanned: needs one planned for none", x.misplanned(1), 1);
        x.plan(1, 2);
        due("misplanned: needs one planned later", x.misplanned(1), 1);
        x.plan(1, 1);
        due("misplanned: needs one planned for the same", x.misplanned(1), 0);
        x.plan(1, 0);
        due("misplanned: needs one planned earlier", x.misplanned(1), 0);
        x.need(0, 2);
        x.need(0, 3);
        due("misplanned: two for one ticket", x.misplanned(1), 1);
        x.plan(4, 1);
        x.need(4, 3);
        due("misplanned: two tickets", x.misplanned(1), 2);
        x.drop(3);
        due("misplanned: one dropped that was needed", x.misplanned(1), 1);
        toClosed(x, 2, 0);
        due("misplanned: one closed that was needed", x.misplanned(1), 0);
        x.release(0, 1);
        x.unplan(1);
        x.need(1, 0);
        due("misplanned: one planned for none needs", x.misplanned(1), 0);
        due("misplanned, other milestones", x.misplanned(0) + x.misplanned(2) + x.misplanned(3), 0);
        TicketChains way = withTickets(1, 1, 1);
        way.plan(0, 0);
        way.plan(1, 0);
        way.need(0, 1);
        way.need(1, 2);
        due("misplanned: directly alone", way.misplanned(0), 1);
        way.drop(1);
        due("misplanned: a dropped one needs", way.misplanned(0), 0);
        TicketChains closed = withTickets(1, 1);
        toClosed(closed, 1, 0);
        closed.plan(0, 0);
        closed.need(0, 1);
        toClosed(closed, 0, 0);
        closed.release(0, 1);
        closed.reopen(1);
        due("misplanned: a closed one does not count", closed.misplanned(0), 0);
    }

    private static void promise62MisplannedByDates() {
        TicketChains x = withTickets(1, 1);
        x.plan(0, 3);
        x.plan(1, 0);
        x.need(0, 1);
        due("misplanned at first", x.misplanned(3), 0);
        x.changeDate(0, 40);
        due("misplanned with the same day", x.misplanned(3), 0);
        x.changeDate(0, 41);
        due("misplanned with a later day", x.misplanned(3), 1);
        due("misplanned of the later one", x.misplanned(0), 0);
        TicketChains turned = withTickets(1, 1);
        turned.plan(1, 0);
        turned.need(1, 0);
        due("misplanned: needs the ticket 0, planned for none", turned.misplanned(0), 1);
        turned.plan(0, 1);
        due("misplanned: needs the ticket 0, planned later", turned.misplanned(0), 1);
        turned.changeDate(1, 10);
        due("misplanned: needs the ticket 0, planned for the same day", turned.misplanned(0), 0);
    }

    private static void promise63LateMilestones() {
        TicketChains x = withTickets(1, 1, 1, 1);
        for (int milestone = 0; milestone < 4; milestone++) {
            x.plan(milestone, milestone);
        }
        int[] late = {0, 0, 1, 1, 2, 2, 3, 3, 4};
        for (int step = 1; step < late.length; step++) {
            x.endDays(step % 2 == 0 ? 1 : step == 1 ? 10 : 9);
            due("lateMilestones on the day " + x.day(), x.lateMilestones(), late[step]);
        }
        x.drop(1);
        due("lateMilestones, one dropped", x.lateMilestones(), 3);
    }

    private static void queriesOfMissingMilestones() {
        TicketChains x = withTickets(5);
        int[] missing = {4, -1, Integer.MAX_VALUE, Integer.MIN_VALUE};
        for (int milestone : missing) {
            dueIndex(x, "dateOf " + milestone, () -> x.dateOf(milestone));
            dueIndex(x, "pointsLeft " + milestone, () -> x.pointsLeft(milestone));
            dueIndex(x, "pointsDone " + milestone, () -> x.pointsDone(milestone));
            dueIndex(x, "hundredthsDone " + milestone, () -> x.hundredthsDone(milestone));
            dueIndex(x, "isLate " + milestone, () -> x.isLate(milestone));
            dueIndex(x, "misplanned " + milestone, () -> x.misplanned(milestone));
        }
    }

    private static void promises10And11InEachState() {
        TicketChains x = withTickets(1, 2, 3);
        x.assign(1, 0);
        x.start(1);
        toReview(x, 2, 0);
        for (int ticket = 0; ticket < 3; ticket++) {
            int at = ticket;
            for (int milestone = 0; milestone < 4; milestone++) {
                due("plan " + ticket + " for " + milestone, x.plan(ticket, milestone), ticket + 1);
                int to = milestone;
                dueState(x, "plan " + ticket + " for " + milestone + " again", () -> x.plan(at, to));
            }
            due("unplan " + ticket, x.unplan(ticket), 3);
            dueState(x, "unplan " + ticket + " again", () -> x.unplan(at));
            due("plan " + ticket + " behind unplan", x.plan(ticket, 3), ticket + 1);
            due("unplan " + ticket + " once more", x.unplan(ticket), 3);
        }
    }

    private static void promise13EachWayToTheLastDay() {
        for (int days = 1; days <= 30; days++) {
            TicketChains x = new TicketChains();
            int now = days;
            endDaysTo(x, 1000 - days);
            dueState(x, "endDays to 1000 by " + days, () -> x.endDays(now));
            if (days > 1) {
                due("endDays to 999 by " + (days - 1), x.endDays(days - 1), 999);
            }
            dueState(x, "endDays on the last day", () -> x.endDays(now));
        }
    }

    private static void promises57To63Empty() {
        TicketChains x = new TicketChains();
        endDaysTo(x, 999);
        for (int milestone = 0; milestone < 4; milestone++) {
            due("dateOf " + milestone, x.dateOf(milestone), 10 * (milestone + 1));
            due("pointsLeft " + milestone, x.pointsLeft(milestone), 0);
            due("pointsDone " + milestone, x.pointsDone(milestone), 0);
            due("hundredthsDone " + milestone, x.hundredthsDone(milestone), 100);
            due("isLate " + milestone, x.isLate(milestone), false);
            due("misplanned " + milestone, x.misplanned(milestone), 0);
        }
        due("lateMilestones", x.lateMilestones(), 0);
    }

    private static void promises58To60OfTwenty() {
        TicketChains x = withTwenty(13);
        for (int ticket = 0; ticket < 20; ticket++) {
            due("plan " + ticket, x.plan(ticket, 3), 13 * (ticket + 1));
        }
        due("hundredthsDone, none", x.hundredthsDone(3), 0);
        x.reestimate(0, 2);
        x.reestimate(19, 3);
        toClosed(x, 0, 0);
        due("2 in 239 are 0 hundredths", x.hundredthsDone(3), 0);
        x.reopen(0);
        x.reestimate(0, 3);
        x.start(0);
        x.submit(0);
        x.close(0);
        due("3 in 240 are 1 hundredth", x.hundredthsDone(3), 1);
        for (int ticket = 1; ticket < 19; ticket++) {
            toClosed(x, ticket, 0);
        }
        due("237 in 240 are 98 hundredths", x.hundredthsDone(3), 98);
        x.reestimate(19, 2);
        due("237 in 239 are 99 hundredths", x.hundredthsDone(3), 99);
        x.reestimate(19, 13);
        toClosed(x, 19, 0);
        due("pointsDone of all", x.pointsDone(3), 250);
        due("pointsLeft of none", x.pointsLeft(3), 0);
        due("hundredthsDone of all", x.hundredthsDone(3), 100);
        TicketChains full = withTwenty(13);
        for (int ticket = 0; ticket < 20; ticket++) {
            full.plan(ticket, 0);
            toClosed(full, ticket, 4);
        }
        due("pointsDone, all with 13", full.pointsDone(0), 260);
    }

    private static void promise61FirstAndLastDay() {
        TicketChains x = withTickets(1);
        x.plan(0, 2);
        x.changeDate(2, 0);
        due("isLate on the day 0", x.isLate(2), false);
        x.endDays(1);
        due("isLate on the day 1", x.isLate(2), true);
        due("lateMilestones on the day 1", x.lateMilestones(), 1);
        endDaysTo(x, 999);
        x.changeDate(2, 998);
        due("isLate on the last day, by one", x.isLate(2), true);
        x.changeDate(2, 999);
        due("isLate on the last day", x.isLate(2), false);
        due("lateMilestones on the last day", x.lateMilestones(), 0);
    }

    private static void promise62OfTwenty() {
        TicketChains x = withTwenty(1);
        for (int ticket = 1; ticket < 20; ticket++) {
            x.plan(ticket, 1);
            x.need(ticket, 0);
            due("misplanned, 0 is planned for none", x.misplanned(1), ticket);
        }
        x.changeDate(0, 20);
        x.plan(0, 0);
        due("misplanned with the same day", x.misplanned(1), 0);
        x.changeDate(1, 19);
        due("misplanned by one day", x.misplanned(1), 19);
        x.changeDate(1, 20);
        x.changeDate(0, 999);
        due("misplanned with the last day", x.misplanned(1), 19);
        x.assign(19, 0);
        x.start(19);
        due("misplanned in progress", x.misplanned(1), 19);
        x.submit(19);
        due("misplanned in review", x.misplanned(1), 19);
        x.drop(19);
        due("misplanned, one dropped", x.misplanned(1), 18);
        x.drop(0);
        due("misplanned, needing a dropped one", x.misplanned(1), 0);
    }

    private static void promise62EachPairOfMilestones() {
        for (int of = 0; of < 4; of++) {
            for (int needed = 0; needed < 4; needed++) {
                TicketChains x = withTickets(1, 1);
                x.need(0, 1);
                x.plan(0, of);
                x.plan(1, needed);
                String pair = "misplanned of " + of + ", needing one of " + needed;
                due(pair, x.misplanned(of), of < needed ? 1 : 0);
                for (int date = 499; date <= 501; date++) {
                    x.changeDate(of, 500);
                    x.changeDate(needed, of == needed ? 500 : date);
                    due(pair + ", on the day " + date, x.misplanned(of), of != needed && date > 500 ? 1 : 0);
                }
                x.unplan(1);
                due(pair + ", planned for none", x.misplanned(of), 1);
            }
        }
    }
}
