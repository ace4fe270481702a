/** Promises 25 to 28: snapshots and undo. */
final class HistoryTest extends Due {
    public static void main(String[] args) {
        promise25Keep();
        promise26GoBack();
        promise26GoBackBringsAll();
        promise27Undo();
        promise27UndoTakesBackAllKinds();
        promise28SavedStates();
        promises26And27LeaveTheSlots();
        promises26And27SixStates();
        emptyTrackerIsKept();
        undoneStatesAreNotShared();
        end("HistoryTest");
    }

    private static void promise25Keep() {
        TicketChains x = withTickets(1);
        dueArgument(x, "keep(2)", () -> x.keep(2));
        dueArgument(x, "keep(-1)", () -> x.keep(-1));
        x.keep(0);
        due("keep saves no state", x.savedStates(), 1);
        dueState(x, "the other slot is empty", () -> x.goBack(1));
        x.openTicket(2, 2);
        x.keep(0);
        x.openTicket(3, 3);
        x.goBack(0);
        due("keep in place of the one in the slot", x.tickets(), 2);
        x.undo();
        x.undo();
        x.undo();
        x.goBack(0);
        due("slots are not undone", x.tickets(), 2);
    }

    private static void promise26GoBack() {
        TicketChains x = withTickets(1);
        dueArgument(x, "goBack(2)", () -> x.goBack(2));
        dueArgument(x, "goBack(-1)", () -> x.goBack(-1));
        dueState(x, "goBack(0)", () -> x.goBack(0));
        x.keep(1);
        dueState(x, "goBack(0), 1 alone has a snapshot", () -> x.goBack(0));
        x.openTicket(2, 2);
        write(x, "e5");
        x.goBack(1);
        due("tickets", x.tickets(), 1);
        due("savedStates", x.savedStates(), 3);
        due("the buffer stays", x.clearBuffer(), 2);
        x.openTicket(5, 0);
        x.openTicket(6, 0);
        x.goBack(1);
        due("the snapshot stays", x.tickets(), 1);
        x.undo();
        due("goBack is undone", x.tickets(), 3);
        due("pointsOf(1)", x.pointsOf(1), 5);
        x.keep(0);
        x.goBack(1);
        x.goBack(0);
        due("two slots", x.tickets(), 3);
        dueUndoable(x, "goBack to the same", () -> x.goBack(0));
    }

    private static TicketChains busy() {
        TicketChains x = withTickets(1, 2, 3, 4, 5);
        x.need(3, 0);
        x.plan(0, 0);
        x.plan(3, 2);
        toClosed(x, 0, 1);
        x.reopen(0);
        toReview(x, 1, 2);
        x.endDays(5);
        x.sendBack(1);
        x.endDays(7);
        x.submit(1);
        x.close(1);
        x.drop(2);
        x.changeCapacity(3, 33);
        x.changeDate(3, 5);
        return x;
    }

    private static void changeAll(TicketChains x) {
        x.openTicket(13, 3);
        x.reestimate(0, 7);
        x.changePriority(0, 2);
        x.release(3, 0);
        x.need(0, 4);
        x.assign(3, 1);
        x.assign(0, 4);
        x.changeCapacity(3, 3);
        x.changeCapacity(0, 0);
        x.plan(0, 3);
        x.unplan(3);
        x.changeDate(0, 999);
        x.endDays(30);
        x.start(0);
        x.endDays(3);
        x.submit(0);
        x.sendBack(0);
        x.reopen(1);
        toClosed(x, 4, 2);
        x.drop(3);
    }

    private static void promise26GoBackBringsAll() {
        TicketChains x = busy();
        String kept = Reading.of(x);
        x.keep(0);
        changeAll(x);
        String changed = Reading.of(x);
        x.keep(1);
        x.goBack(0);
        dueText("goBack(0)", Reading.of(x), kept);
        x.goBack(1);
        dueText("goBack(1)", Reading.of(x), changed);
        x.undo();
        dueText("undo of goBack(1)", Reading.of(x), kept);
        x.undo();
        dueText("undo of goBack(0)", Reading.of(x), changed);
        x.goBack(0);
        changeAll(x);
        dueText("the same changes again", Reading.of(x), changed);
    }

    private static void promise27Undo() {
        TicketChains x = new TicketChains();
        dueState(x, "undo without a state", x::undo);
        String[] readings = new String[7];
        for (int step = 0; step < 7; step++) {
            x.openTicket(step + 1, step % 4);
            readings[step] = Reading.of(x);
        }
        for (int step = 5; step >= 0; step--) {
            x.undo();
            dueText("undo to " + step, Reading.of(x), readings[step]);
            due("savedStates at " + step, x.savedStates(), step);
        }
        dueState(x, "undo: the oldest was dropped", x::undo);
        due("tickets", x.tickets(), 1);
        write(x, "e1");
        x.openTicket(1, 1);
        x.undo();
        due("undo leaves the buffer", x.clearBuffer(), 2);
    }

    private static void promise27UndoTakesBackAllKinds() {
        TicketChains x = busy();
        String before = Reading.of(x);
        x.keep(0);
        changeAll(x);
        x.goBack(0);
        dueText("goBack behind all changes", Reading.of(x), before);
        TicketChains each = busy();
        dueUndoable(each, "plan", () -> each.plan(0, 1));
        dueUndoable(each, "changePriority", () -> each.changePriority(2, 0));
        dueUndoable(each, "reopen", () -> each.reopen(1));
        dueUndoable(each, "drop", () -> each.drop(4));
    }

    private static void promise28SavedStates() {
        TicketChains x = new TicketChains();
        for (int step = 0; step < 20; step++) {
            due("savedStates at " + step, x.savedStates(), Math.min(step, 6));
            x.changeDate(0, step);
        }
        x.undo();
        due("savedStates behind undo", x.savedStates(), 5);
        due("dateOf(0) behind undo", x.dateOf(0), 18);
        x.keep(0);
        x.append('o');
        x.clearBuffer();
        due("savedStates behind keep, append, clearBuffer", x.savedStates(), 5);
        dueState(x, "nextToDo", x::nextToDo);
        due("savedStates behind an exception", x.savedStates(), 5);
    }

    private static void undoneStatesAreNotShared() {
        TicketChains x = withTickets(1, 1);
        for (int step = 0; step < 40; step++) {
            x.changePriority(0, step % 4);
            if (step % 3 == 2) {
                x.undo();
                due("priorityOf(0) behind undo at " + step, x.priorityOf(0), (step - 1) % 4);
            } else {
                due("priorityOf(0) at " + step, x.priorityOf(0), step % 4);
            }
        }
    }

    private static void promises26And27LeaveTheSlots() {
        TicketChains x = new TicketChains();
        x.keep(0);
        x.openTicket(1, 1);
        x.keep(1);
        x.openTicket(2, 2);
        x.goBack(0);
        due("slot 0", x.tickets(), 0);
        x.goBack(1);
        due("slot 1 behind goBack(0)", x.tickets(), 1);
        x.keep(0);
        x.undo();
        x.undo();
        due("undo leaves", x.tickets(), 2);
        x.goBack(0);
        due("slot 0 is not taken back by undo", x.tickets(), 1);
        x.changePriority(0, 3);
        x.goBack(1);
        due("the snapshot is not changed with the tracker", x.priorityOf(0), 1);
    }

    private static void promises26And27SixStates() {
        TicketChains x = new TicketChains();
        x.keep(1);
        for (int day = 1; day <= 6; day++) {
            x.endDays(1);
        }
        due("six states", x.savedStates(), 6);
        x.goBack(1);
        due("goBack with six states", x.savedStates(), 6);
        int[] days = {6, 5, 4, 3, 2, 1};
        for (int left = 5; left >= 0; left--) {
            x.undo();
            due("day behind undo", x.day(), days[5 - left]);
            due("savedStates", x.savedStates(), left);
        }
        dueState(x, "undo behind six", x::undo);
        x.goBack(1);
        due("goBack without a state", x.savedStates(), 1);
        x.undo();
        due("undo of goBack", x.day(), 1);
    }

    private static void emptyTrackerIsKept() {
        TicketChains x = new TicketChains();
        long fresh = x.digest();
        String empty = Reading.of(x);
        x.keep(0);
        due("keep is in the digest", x.digest() == fresh, false);
        x.openTicket(3, 3);
        x.changeCapacity(0, 1);
        x.changeDate(0, 1);
        x.goBack(0);
        dueText("the empty tracker", Reading.of(x), empty);
        due("openTicket in it", x.openTicket(1, 1), 0);
        due("pointsOf(0)", x.pointsOf(0), 1);
        x.keep(0);
        x.keep(0);
        x.goBack(0);
        due("keep twice", x.tickets(), 1);
    }
}
