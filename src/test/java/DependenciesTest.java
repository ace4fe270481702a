/** Promises 5, 6 and 41 to 50: dependencies, what a ticket needs, chains. */
final class DependenciesTest extends Due {
    public static void main(String[] args) {
        promise5Need();
        promise5NeedRefused();
        promise5NoRings();
        promise6Release();
        promise41Needs();
        promises42And43Counts();
        promises44And45Blocked();
        promises46And47AllNeeds();
        promise48ChainOf();
        promises49And50Critical();
        longestChainOfAll();
        allTicketsNeedAllLaterOnes();
        oneTicketNeedsAllOthers();
        mostPointsOfAll();
        statesWithoutTicketsOrNeeds();
        queriesOfMissingTickets();
        end("DependenciesTest");
    }

    private static void dueAllNeeds(TicketChains x, int ticket, int want) {
        due("allNeedsByGoing " + ticket, x.allNeedsByGoing(ticket), want);
        due("allNeedsByTable " + ticket, x.allNeedsByTable(ticket), want);
    }

    private static void dueCritical(TicketChains x, String when, int want) {
        due("criticalByTrying " + when, x.criticalByTrying(), want);
        due("criticalByOrder " + when, x.criticalByOrder(), want);
    }

    private static void promise5Need() {
        TicketChains x = withTickets(1, 1, 1, 1);
        due("need(0,1)", x.need(0, 1), 1);
        due("need(0,2)", x.need(0, 2), 2);
        due("need(3,0)", x.need(3, 0), 1);
        due("need told directly only", x.need(3, 1), 2);
        due("needed by way of others already, not directly", x.need(3, 2), 3);
        TicketChains fresh = withTickets(1, 1);
        dueUndoable(fresh, "need", () -> fresh.need(1, 0));
    }

    private static void promise5NeedRefused() {
        TicketChains x = withTickets(1, 1, 1, 1);
        dueIndex(x, "need(0,4)", () -> x.need(0, 4));
        dueIndex(x, "need(4,0)", () -> x.need(4, 0));
        dueIndex(x, "need(-1,-1)", () -> x.need(-1, -1));
        dueIndex(x, "need(4,4)", () -> x.need(4, 4));
        dueArgument(x, "need(2,2)", () -> x.need(2, 2));
        x.need(0, 1);
        dueState(x, "need(0,1) again", () -> x.need(0, 1));
        dueState(x, "need(1,0)", () -> x.need(1, 0));
        toClosed(x, 2, 0);
        dueState(x, "a closed one needs", () -> x.need(2, 3));
        dueArgument(x, "a closed one needs itself", () -> x.need(2, 2));
        due("a closed one is needed", x.need(3, 2), 1);
        x.drop(1);
        dueState(x, "a dropped one needs", () -> x.need(1, 3));
        due("a dropped one is needed", x.need(3, 1), 2);
        x.assign(0, 0);
        x.start(0);
        due("one in progress needs", x.need(0, 2), 2);
        x.submit(0);
        due("one in review needs", x.need(0, 3), 3);
    }

    private static void promise5NoRings() {
        TicketChains x = withTickets(1, 1, 1, 1, 1);
        x.need(3, 1);
        x.need(1, 4);
        x.need(4, 0);
        dueState(x, "a ring of four", () -> x.need(0, 3));
        dueState(x, "a ring of three", () -> x.need(0, 1));
        dueState(x, "a ring of two", () -> x.need(0, 4));
        due("no ring", x.need(0, 2), 1);
        dueState(x, "a ring of five", () -> x.need(2, 3));
        x.release(1, 4);
        due("the ring is cut", x.need(0, 3), 2);
        TicketChains dropped = withTickets(1, 1, 1);
        dropped.need(0, 1);
        dropped.need(1, 2);
        dropped.drop(1);
        dueState(dropped, "a ring by way of a dropped one", () -> dropped.need(2, 0));
    }

    private static void promise6Release() {
        TicketChains x = withTickets(1, 1, 1);
        x.need(0, 1);
        x.need(0, 2);
        x.need(1, 2);
        dueIndex(x, "release(0,3)", () -> x.release(0, 3));
        dueIndex(x, "release(3,0)", () -> x.release(3, 0));
        dueIndex(x, "release(-1,0)", () -> x.release(-1, 0));
        dueState(x, "release(1,0)", () -> x.release(1, 0));
        dueState(x, "release(0,0)", () -> x.release(0, 0));
        due("release(0,1)", x.release(0, 1), 1);
        dueState(x, "release(0,1) again", () -> x.release(0, 1));
        due("needs(0,1)", x.needs(0, 1), false);
        due("needs(0,2)", x.needs(0, 2), true);
        due("release(0,2)", x.release(0, 2), 0);
        x.need(0, 1);
        dueState(x, "needed only by way of others", () -> x.release(0, 2));
        TicketChains fresh = withTickets(1, 1);
        fresh.need(0, 1);
        dueUndoable(fresh, "release", () -> fresh.release(0, 1));
        toClosed(fresh, 1, 0);
        toClosed(fresh, 0, 0);
        due("release from a closed one", fresh.release(0, 1), 0);
    }

    private static void promise41Needs() {
        TicketChains x = withTickets(1, 1, 1);
        x.need(0, 1);
        x.need(1, 2);
        due("needs(0,1)", x.needs(0, 1), true);
        due("needs(1,0)", x.needs(1, 0), false);
        due("needs by way of another", x.needs(0, 2), false);
        due("needs itself", x.needs(1, 1), false);
    }

    private static void promises42And43Counts() {
        TicketChains x = withTickets(1, 1, 1, 1);
        x.need(0, 1);
        x.need(0, 2);
        x.need(1, 3);
        x.need(2, 3);
        int[] needs = {2, 1, 1, 0};
        int[] neededBy = {0, 1, 1, 2};
        for (int ticket = 0; ticket < 4; ticket++) {
            due("needsOf " + ticket, x.needsOf(ticket), needs[ticket]);
            due("neededBy " + ticket, x.neededBy(ticket), neededBy[ticket]);
        }
        x.drop(3);
        x.drop(0);
        due("needsOf with a dropped one", x.needsOf(1), 1);
        due("neededBy, dropped", x.neededBy(3), 2);
        due("neededBy a dropped one", x.neededBy(1), 1);
    }

    private static void promises44And45Blocked() {
        TicketChains x = withTickets(1, 1, 1, 1, 1);
        x.need(0, 1);
        x.need(0, 2);
        x.need(0, 3);
        x.need(1, 4);
        due("blockersOf(0)", x.blockersOf(0), 3);
        due("isBlocked(0)", x.isBlocked(0), true);
        due("isBlocked(4)", x.isBlocked(4), false);
        due("blockersOf(4)", x.blockersOf(4), 0);
        x.drop(2);
        due("blockersOf(0), one dropped", x.blockersOf(0), 2);
        toReview(x, 3, 0);
        due("blockersOf(0), one in review", x.blockersOf(0), 2);
        x.close(3);
        due("blockersOf(0), one closed", x.blockersOf(0), 1);
        x.drop(0);
        due("a dropped one is blocked", x.isBlocked(0), true);
        x.drop(1);
        due("no blocker is left", x.isBlocked(0), false);
        due("a dropped one has a blocker", x.blockersOf(1), 1);
    }

    private static void promises46And47AllNeeds() {
        TicketChains x = withTickets(1, 1, 1, 1, 1, 1);
        dueAllNeeds(x, 0, 0);
        x.need(5, 0);
        x.need(0, 4);
        x.need(0, 3);
        x.need(4, 2);
        x.need(3, 2);
        int[] all = {3, 0, 0, 1, 1, 4};
        for (int ticket = 0; ticket < 6; ticket++) {
            dueAllNeeds(x, ticket, all[ticket]);
        }
        x.drop(0);
        dueAllNeeds(x, 5, 4);
        x.release(5, 0);
        dueAllNeeds(x, 5, 0);
    }

    private static void promise48ChainOf() {
        TicketChains x = withTickets(1, 1, 1, 1, 1, 1);
        due("chainOf alone", x.chainOf(0), 1);
        x.need(0, 1);
        due("chainOf(0)", x.chainOf(0), 2);
        x.need(1, 5);
        x.need(0, 2);
        x.need(2, 3);
        x.need(3, 4);
        int[] lengths = {4, 2, 3, 2, 1, 1};
        for (int ticket = 0; ticket < 6; ticket++) {
            due("chainOf " + ticket, x.chainOf(ticket), lengths[ticket]);
        }
        x.drop(3);
        due("chainOf, whatever the states", x.chainOf(0), 4);
    }

    private static void promises49And50Critical() {
        TicketChains x = new TicketChains();
        dueCritical(x, "without tickets", 0);
        x.openTicket(3, 1);
        x.openTicket(5, 1);
        x.openTicket(4, 1);
        x.openTicket(2, 1);
        dueCritical(x, "without needs", 5);
        x.need(0, 2);
        dueCritical(x, "3 and 4", 7);
        x.need(2, 3);
        dueCritical(x, "3, 4 and 2", 9);
        x.need(1, 3);
        dueCritical(x, "5 and 2 are fewer", 9);
        x.drop(2);
        dueCritical(x, "4 is dropped: 5 and 2", 7);
        x.reestimate(0, 6);
        dueCritical(x, "6 and 2, by way of the dropped one", 8);
        toClosed(x, 3, 0);
        dueCritical(x, "2 is closed", 6);
        x.drop(0);
        x.drop(1);
        dueCritical(x, "all are closed or dropped", 0);
        TicketChains ordered = withTickets(3, 5, 4);
        ordered.need(0, 1);
        ordered.need(1, 2);
        due("criticalByOrder alone", ordered.criticalByOrder(), 12);
        ordered.release(1, 2);
        due("criticalByOrder alone, one released", ordered.criticalByOrder(), 8);
        TicketChains tried = withTickets(3, 5, 4);
        tried.need(0, 1);
        tried.need(1, 2);
        due("criticalByTrying alone", tried.criticalByTrying(), 12);
        tried.release(1, 2);
        due("criticalByTrying alone, one released", tried.criticalByTrying(), 8);
    }

    private static void longestChainOfAll() {
        TicketChains x = withTickets(1, 2, 3, 4, 5, 6, 7, 8, 9, 10, 11, 12, 13, 1, 2, 3, 4, 5, 6, 7);
        for (int ticket = 19; ticket > 0; ticket--) {
            x.need(ticket, ticket - 1);
        }
        due("chainOf the last one", x.chainOf(19), 20);
        due("chainOf the first one", x.chainOf(0), 1);
        dueAllNeeds(x, 19, 19);
        dueAllNeeds(x, 7, 7);
        dueCritical(x, "of all", 119);
        dueState(x, "a ring of twenty", () -> x.need(0, 19));
        TicketChains turned = withTickets(1, 1, 1, 1, 1, 1, 1, 1, 1, 1, 1, 1, 1, 1, 1, 1, 1, 1, 1, 1);
        for (int ticket = 0; ticket < 19; ticket++) {
            turned.need(ticket, ticket + 1);
        }
        due("chainOf the first one, turned", turned.chainOf(0), 20);
        dueAllNeeds(turned, 0, 19);
        dueCritical(turned, "of all, turned", 20);
        dueState(turned, "a ring of twenty, turned", () -> turned.need(19, 0));
    }

    private static void allTicketsNeedAllLaterOnes() {
        TicketChains x = withTickets(1, 2, 3, 4, 5, 6, 7, 8, 9, 10, 11, 12, 13, 1, 2, 3, 4, 5, 6, 7);
        for (int ticket = 0; ticket < 20; ticket++) {
            for (int needed = ticket + 1; needed < 20; needed++) {
                due("need", x.need(ticket, needed), needed - ticket);
            }
        }
        for (int again = 0; again < 100; again++) {
            dueCritical(x, "with 190 needs", 119);
        }
        due("chainOf(0)", x.chainOf(0), 20);
        due("neededBy(19)", x.neededBy(19), 19);
    }

    private static void queriesOfMissingTickets() {
        TicketChains x = withTickets(5);
        int[] missing = {1, -1, 20, 31, 32, Integer.MAX_VALUE, Integer.MIN_VALUE};
        for (int ticket : missing) {
            dueIndex(x, "needs " + ticket, () -> x.needs(ticket, 0));
            dueIndex(x, "needs 0, " + ticket, () -> x.needs(0, ticket));
            dueIndex(x, "needsOf " + ticket, () -> x.needsOf(ticket));
            dueIndex(x, "neededBy " + ticket, () -> x.neededBy(ticket));
            dueIndex(x, "isBlocked " + ticket, () -> x.isBlocked(ticket));
            dueIndex(x, "blockersOf " + ticket, () -> x.blockersOf(ticket));
            dueIndex(x, "allNeedsByGoing " + ticket, () -> x.allNeedsByGoing(ticket));
            dueIndex(x, "allNeedsByTable " + ticket, () -> x.allNeedsByTable(ticket));
            dueIndex(x, "chainOf " + ticket, () -> x.chainOf(ticket));
        }
    }

    private static void oneTicketNeedsAllOthers() {
        TicketChains x = withTwenty(1);
        for (int needed = 0; needed < 19; needed++) {
            due("need(19," + needed + ")", x.need(19, needed), needed + 1);
        }
        due("needsOf(19)", x.needsOf(19), 19);
        due("blockersOf(19)", x.blockersOf(19), 19);
        dueAllNeeds(x, 19, 19);
        due("chainOf(19)", x.chainOf(19), 2);
        dueState(x, "all needs are there already", () -> x.need(19, 18));
        for (int needed = 0; needed < 19; needed++) {
            due("neededBy", x.neededBy(needed), 1);
            x.drop(needed);
            due("blockersOf(19), some dropped", x.blockersOf(19), 18 - needed);
            due("isBlocked(19), some dropped", x.isBlocked(19), needed < 18);
        }
        due("needsOf(19), all dropped", x.needsOf(19), 19);
        for (int needed = 0; needed < 19; needed++) {
            due("release(19," + needed + ")", x.release(19, needed), 18 - needed);
        }
        dueState(x, "no need is left", () -> x.release(19, 0));
        dueAllNeeds(x, 19, 0);
    }

    private static void mostPointsOfAll() {
        TicketChains x = withTwenty(13);
        dueCritical(x, "of twenty without needs", 13);
        for (int ticket = 0; ticket < 19; ticket++) {
            x.need(ticket, ticket + 1);
        }
        dueCritical(x, "of twenty with 13 points each", 260);
        for (int ticket = 0; ticket < 20; ticket++) {
            x.drop(ticket);
            dueCritical(x, "with some dropped", 247 - 13 * ticket);
        }
    }

    private static void statesWithoutTicketsOrNeeds() {
        TicketChains x = withTickets(4);
        due("needsOf alone", x.needsOf(0), 0);
        due("neededBy alone", x.neededBy(0), 0);
        due("isBlocked alone", x.isBlocked(0), false);
        due("blockersOf alone", x.blockersOf(0), 0);
        dueAllNeeds(x, 0, 0);
        due("chainOf alone", x.chainOf(0), 1);
        dueCritical(x, "of one", 4);
        dueArgument(x, "need(0,0), alone", () -> x.need(0, 0));
        dueState(x, "release(0,0), alone", () -> x.release(0, 0));
        toClosed(x, 0, 0);
        due("chainOf a closed one", x.chainOf(0), 1);
        dueCritical(x, "of one closed", 0);
        x.reopen(0);
        dueCritical(x, "of one opened again", 4);
        x.assign(0, 1);
        x.start(0);
        dueCritical(x, "of one in progress", 4);
        x.submit(0);
        dueCritical(x, "of one in review", 4);
    }
}
