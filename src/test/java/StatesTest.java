/** Promises 14 to 19: the states of tickets. */
final class StatesTest extends Due {
    public static void main(String[] args) {
        promise14Start();
        promise15Submit();
        promise16SendBack();
        promise17Close();
        promise17CloseSetsFree();
        promise17BlockedByEachState();
        promise18Reopen();
        promise18ReopenBlocks();
        promise19Drop();
        promises17To19OfTwenty();
        promise18AtTheCapacity();
        end("StatesTest");
    }

    private static void promise14Start() {
        TicketChains x = withTickets(3, 5, 7);
        dueIndex(x, "start(3)", () -> x.start(3));
        dueIndex(x, "start(-1)", () -> x.start(-1));
        dueState(x, "start without an owner", () -> x.start(0));
        x.assign(0, 0);
        dueUndoable(x, "start", () -> x.start(0));
        x.start(0);
        due("stateOf(0)", x.stateOf(0), 1);
        dueState(x, "start again", () -> x.start(0));
        x.submit(0);
        dueState(x, "start in review", () -> x.start(0));
        x.close(0);
        dueState(x, "start a closed one", () -> x.start(0));
        x.assign(1, 0);
        x.need(1, 2);
        x.start(1);
        due("a blocked one is started", x.stateOf(1), 1);
        x.assign(2, 1);
        x.drop(2);
        dueState(x, "start a dropped one", () -> x.start(2));
    }

    private static void promise15Submit() {
        TicketChains x = withTickets(3, 5);
        dueIndex(x, "submit(2)", () -> x.submit(2));
        dueIndex(x, "submit(-1)", () -> x.submit(-1));
        x.assign(0, 0);
        dueState(x, "submit an open one", () -> x.submit(0));
        x.need(0, 1);
        x.start(0);
        dueUndoable(x, "submit", () -> x.submit(0));
        x.submit(0);
        due("a blocked one is submitted", x.stateOf(0), 2);
        dueState(x, "submit again", () -> x.submit(0));
        x.drop(1);
        dueState(x, "submit a dropped one", () -> x.submit(1));
        x.close(0);
        dueState(x, "submit a closed one", () -> x.submit(0));
    }

    private static void promise16SendBack() {
        TicketChains x = withTickets(3, 5);
        dueIndex(x, "sendBack(2)", () -> x.sendBack(2));
        dueIndex(x, "sendBack(-1)", () -> x.sendBack(-1));
        dueState(x, "sendBack an open one", () -> x.sendBack(0));
        x.assign(0, 0);
        x.start(0);
        dueState(x, "sendBack in progress", () -> x.sendBack(0));
        x.submit(0);
        dueUndoable(x, "sendBack", () -> x.sendBack(0));
        due("sendBack(0)", x.sendBack(0), 1);
        due("stateOf(0)", x.stateOf(0), 1);
        x.submit(0);
        due("sendBack(0) again", x.sendBack(0), 2);
        x.submit(0);
        x.close(0);
        dueState(x, "sendBack a closed one", () -> x.sendBack(0));
        x.drop(1);
        dueState(x, "sendBack a dropped one", () -> x.sendBack(1));
    }

    private static void promise17Close() {
        TicketChains x = withTickets(3, 5, 7);
        dueIndex(x, "close(3)", () -> x.close(3));
        dueIndex(x, "close(-1)", () -> x.close(-1));
        dueState(x, "close an open one", () -> x.close(0));
        x.need(0, 1);
        x.assign(0, 0);
        x.start(0);
        dueState(x, "close in progress", () -> x.close(0));
        x.submit(0);
        dueState(x, "close a blocked one", () -> x.close(0));
        x.drop(1);
        dueState(x, "close a dropped one", () -> x.close(1));
        dueUndoable(x, "close", () -> x.close(0));
        due("close(0)", x.close(0), 0);
        due("stateOf(0)", x.stateOf(0), 3);
        due("closings", x.closings(), 1);
        dueState(x, "close again", () -> x.close(0));
    }

    private static void promise17CloseSetsFree() {
        TicketChains x = withTickets(1, 1, 1, 1, 1, 1);
        x.need(1, 0);
        x.need(2, 0);
        x.need(3, 0);
        x.need(3, 4);
        x.need(5, 1);
        x.drop(2);
        toReview(x, 0, 0);
        due("close sets free, dropped ones too", x.close(0), 2);
        due("one is blocked by another", x.blockersOf(3), 1);
        toReview(x, 4, 0);
        due("close the last blocker", x.close(4), 1);
        toReview(x, 1, 0);
        due("close one more", x.close(1), 1);
    }

    private static void promise18Reopen() {
        TicketChains x = withTickets(3, 5, 7, 13);
        dueIndex(x, "reopen(4)", () -> x.reopen(4));
        dueIndex(x, "reopen(-1)", () -> x.reopen(-1));
        dueState(x, "reopen an open one", () -> x.reopen(0));
        x.plan(0, 2);
        x.assign(0, 1);
        x.start(0);
        dueState(x, "reopen in progress", () -> x.reopen(0));
        x.submit(0);
        dueState(x, "reopen in review", () -> x.reopen(0));
        x.close(0);
        dueUndoable(x, "reopen", () -> x.reopen(0));
        due("reopen(0)", x.reopen(0), 0);
        due("stateOf(0)", x.stateOf(0), 0);
        due("ownerOf(0) stays", x.ownerOf(0), 1);
        due("milestoneOf(0) stays", x.milestoneOf(0), 2);
        due("reopenings", x.reopenings(), 1);
        due("closings stay", x.closings(), 1);
        due("load", x.loadByAccount(1), 3);
        x.drop(0);
        dueState(x, "reopen a dropped one", () -> x.reopen(0));
        toClosed(x, 1, 1);
        x.assign(3, 1);
        x.assign(2, 1);
        dueState(x, "reopen above the capacity", () -> x.reopen(1));
        x.changeCapacity(1, 24);
        dueState(x, "reopen above the capacity by one", () -> x.reopen(1));
        x.changeCapacity(1, 25);
        due("reopen to the capacity", x.reopen(1), 0);
        due("load at the capacity", x.loadByAccount(1), 25);
    }

    private static void promise18ReopenBlocks() {
        TicketChains x = withTickets(1, 1, 1, 1, 1);
        x.need(1, 0);
        x.need(2, 0);
        x.need(3, 0);
        x.need(3, 4);
        x.drop(2);
        toClosed(x, 0, 0);
        due("reopen blocks, dropped ones too", x.reopen(0), 2);
        x.start(0);
        x.submit(0);
        due("close sets the same free", x.close(0), 2);
        toClosed(x, 1, 0);
        dueState(x, "reopen one that a closed one needs", () -> x.reopen(0));
        x.release(1, 0);
        due("reopen one that no closed one needs", x.reopen(0), 1);
        TicketChains way = withTickets(1, 1, 1);
        way.need(0, 1);
        way.need(1, 2);
        toClosed(way, 2, 0);
        toReview(way, 1, 0);
        way.drop(1);
        toClosed(way, 0, 0);
        due("reopen one that a closed one needs by way of a dropped one", way.reopen(2), 1);
    }

    private static void promise19Drop() {
        TicketChains x = withTickets(1, 2, 3, 4, 5, 1);
        dueIndex(x, "drop(6)", () -> x.drop(6));
        dueIndex(x, "drop(-1)", () -> x.drop(-1));
        x.need(1, 0);
        x.need(2, 0);
        x.need(2, 3);
        x.plan(0, 1);
        x.assign(0, 2);
        x.drop(1);
        dueUndoable(x, "drop", () -> x.drop(0));
        due("drop(0)", x.drop(0), 1);
        due("stateOf(0)", x.stateOf(0), 4);
        due("ownerOf(0) stays", x.ownerOf(0), 2);
        due("milestoneOf(0) stays", x.milestoneOf(0), 1);
        due("load", x.loadByAccount(2), 0);
        dueState(x, "drop again", () -> x.drop(0));
        x.assign(3, 0);
        x.start(3);
        due("drop in progress", x.drop(3), 1);
        toReview(x, 2, 0);
        due("drop in review", x.drop(2), 0);
        due("closings", x.closings(), 0);
        toClosed(x, 4, 0);
        dueState(x, "drop a closed one", () -> x.drop(4));
        due("drop without an owner", x.drop(5), 0);
    }

    private static void promise17BlockedByEachState() {
        TicketChains x = withTickets(1, 1);
        x.need(0, 1);
        toReview(x, 0, 0);
        dueState(x, "close, blocked by an open one", () -> x.close(0));
        x.assign(1, 1);
        x.start(1);
        dueState(x, "close, blocked by one in progress", () -> x.close(0));
        x.submit(1);
        dueState(x, "close, blocked by one in review", () -> x.close(0));
        x.close(1);
        due("close, needing a closed one", x.close(0), 0);
        TicketChains dropped = withTickets(1, 1, 1);
        dropped.need(0, 1);
        dropped.need(0, 2);
        toReview(dropped, 0, 0);
        dropped.drop(1);
        dueState(dropped, "close, one of two is dropped", () -> dropped.close(0));
        dropped.drop(2);
        due("close, needing dropped ones", dropped.close(0), 0);
        TicketChains way = withTickets(1, 1, 1);
        way.need(0, 1);
        way.need(1, 2);
        way.drop(1);
        toReview(way, 0, 0);
        due("close, blocked by way of a dropped one alone", way.close(0), 0);
    }

    /** The first ticket is needed by 19 others, some of them dropped. */
    private static void promises17To19OfTwenty() {
        TicketChains x = withTwenty(1);
        for (int ticket = 1; ticket < 20; ticket++) {
            x.need(ticket, 0);
        }
        x.drop(7);
        due("neededBy(0)", x.neededBy(0), 19);
        toReview(x, 0, 0);
        due("close sets 19 free", x.close(0), 19);
        due("reopen blocks 19", x.reopen(0), 19);
        due("drop sets 19 free", x.drop(0), 19);
        x.undo();
        x.need(19, 18);
        due("drop sets 18 free", x.drop(0), 18);
        x.undo();
        x.start(0);
        x.submit(0);
        due("close sets 18 free", x.close(0), 18);
        toClosed(x, 1, 0);
        dueState(x, "reopen, one of 19 is closed", () -> x.reopen(0));
        x.reopen(1);
        due("reopen blocks 18", x.reopen(0), 18);
    }

    private static void promise18AtTheCapacity() {
        TicketChains x = withTickets(13, 7, 8);
        toClosed(x, 0, 2);
        x.assign(2, 2);
        dueState(x, "reopen 13 beside 8 of 20", () -> x.reopen(0));
        x.reestimate(2, 7);
        due("reopen 13 beside 7 of 20", x.reopen(0), 0);
        due("load", x.loadByAccount(2), 20);
        due("stateOf one opened again", x.stateOf(0), 0);
        TicketChains alone = withTickets(5);
        toClosed(alone, 0, 0);
        alone.changeCapacity(0, 4);
        dueState(alone, "reopen 5 with a capacity of 4", () -> alone.reopen(0));
        alone.changeCapacity(0, 5);
        due("reopen 5 with a capacity of 5", alone.reopen(0), 0);
        dueState(alone, "reopen again", () -> alone.reopen(0));
        alone.start(0);
        due("started again", alone.stateOf(0), 1);
    }
}
