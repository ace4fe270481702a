import java.nio.file.Files;
import java.nio.file.Path;
import java.util.ArrayList;
import java.util.List;
import java.util.Set;
import java.util.TreeSet;

/**
 * Each call that is marked "undoable" saves the state from before it, of six the oldest is dropped, and leaves the
 * slots alone; all other calls save nothing, and the queries change nothing.
 */
final class UndoableTest extends Due {
    private static final Set<String> undoable = new TreeSet<>();
    private static final Set<String> others = new TreeSet<>();

    private interface OnTracker {
        void call(TicketChains x);
    }

    public static void main(String[] args) throws Exception {
        undoableCallsOnTickets();
        undoableCallsOnOwnersAndMilestones();
        undoableCallsOnStates();
        undoableCallsThatChangeNothing();
        undoableTexts();
        callsOnBufferAndSlots();
        queriesOfTickets();
        queriesOfDependencies();
        queriesOfOwnersAndMilestones();
        queriesOfAll();
        if (args.length == 0) {
            complain("UndoableTest is called with the document");
        } else {
            eachCallOfTheDocument(Path.of(args[0]));
        }
        end("UndoableTest");
    }

    private static void saves(String name, OnTracker made) {
        savesWith("e1", name, made);
    }

    private static void savesWith(String buffer, String name, OnTracker made) {
        for (int saved = 0; saved <= 6; saved++) {
            TicketChains x = Busy.with(saved, buffer);
            TicketChains twin = Busy.with(saved, buffer);
            made.call(x);
            String when = name + " with " + saved + " saved states";
            due("savedStates behind " + when, x.savedStates(), Math.min(saved + 1, 6));
            List<String> want = Deep.states(twin);
            List<String> got = Deep.states(x);
            due("states of " + when, got.size(), Math.min(saved + 2, 7));
            for (int back = 1; back < got.size(); back++) {
                dueText(when + ", undone " + back + " times", got.get(back), want.get(back - 1));
            }
            dueText(when + ", the slots", Deep.slots(x), Deep.slots(twin));
        }
        undoable.add(name);
    }

    private static void undoableCallsOnTickets() {
        saves("openTicket", x -> x.openTicket(4, 2));
        saves("reestimate", x -> x.reestimate(1, 7));
        saves("changePriority", x -> x.changePriority(5, 3));
        saves("need", x -> x.need(0, 11));
        saves("release", x -> x.release(8, 1));
    }

    private static void undoableCallsOnOwnersAndMilestones() {
        saves("assign", x -> x.assign(1, 1));
        saves("unassign", x -> x.unassign(9));
        saves("changeCapacity", x -> x.changeCapacity(0, 16));
        saves("plan", x -> x.plan(1, 3));
        saves("unplan", x -> x.unplan(1));
        saves("changeDate", x -> x.changeDate(3, 0));
        saves("endDays", x -> x.endDays(30));
    }

    private static void undoableCallsOnStates() {
        saves("start", x -> x.start(1));
        saves("submit", x -> x.submit(2));
        saves("sendBack", x -> x.sendBack(4));
        saves("close", x -> x.close(3));
        saves("reopen", x -> x.reopen(6));
        saves("drop", x -> x.drop(0));
        saves("goBack", x -> x.goBack(0));
        saves("goBack", x -> x.goBack(1));
    }

    private static void undoableCallsThatChangeNothing() {
        saves("reestimate", x -> x.reestimate(1, 3));
        saves("changePriority", x -> x.changePriority(7, 1));
        saves("changeCapacity", x -> x.changeCapacity(4, 7));
        saves("changeDate", x -> x.changeDate(0, 10));
        savesWith("a1@1;a1@0", "follow", TicketChains::follow);
    }

    private static void undoableTexts() {
        savesWith("e1", "follow", TicketChains::follow);
        savesWith("a0@2;s0;r0;c0;c4;o13;n12>1;e30", "follow", TicketChains::follow);
    }

    /** No state is saved, and those that are saved stay. */
    private static void savesNothing(String name, OnTracker made) {
        for (int saved : new int[] {0, 3, 6}) {
            TicketChains x = Busy.with(saved, "c3;e1");
            TicketChains twin = Busy.with(saved, "c3;e1");
            made.call(x);
            dueText(name + " saves nothing", String.join("\n", Deep.states(x)), String.join("\n", Deep.states(twin)));
        }
        others.add(name);
    }

    private static void callsOnBufferAndSlots() {
        savesNothing("append", x -> x.append('!'));
        savesNothing("clearBuffer", TicketChains::clearBuffer);
        savesNothing("keep", x -> x.keep(0));
        savesNothing("keep", x -> x.keep(1));
        TicketChains x = Busy.with(6, "c3;e1");
        List<String> want = Deep.states(Busy.with(6, "c3;e1"));
        x.undo();
        want.remove(0);
        dueText("undo drops one state", String.join("\n", Deep.states(x)), String.join("\n", want));
        dueText("undo leaves the slots", Deep.slots(x), Deep.slots(Busy.with(6, "c3;e1")));
        due("undo leaves the buffer", x.clearBuffer(), 5);
        others.add("undo");
    }

    private static void changesNothing(String name, OnTracker made) {
        String[] buffers = {"c3;e1;s2", "o13!", ""};
        for (String buffer : buffers) {
            TicketChains x = Busy.with(5, buffer);
            made.call(x);
            made.call(x);
            dueText(name + " changes nothing", Deep.of(x), Deep.of(Busy.with(5, buffer)));
        }
        others.add(name);
    }

    private static void queriesOfTickets() {
        for (int each = 0; each < 12; each++) {
            int ticket = each;
            changesNothing("stateOf", x -> x.stateOf(ticket));
            changesNothing("pointsOf", x -> x.pointsOf(ticket));
            changesNothing("priorityOf", x -> x.priorityOf(ticket));
            changesNothing("hasOwner", x -> x.hasOwner(ticket));
            changesNothing("isPlanned", x -> x.isPlanned(ticket));
            changesNothing("openedOn", x -> x.openedOn(ticket));
            changesNothing("daysInProgress", x -> x.daysInProgress(ticket));
            changesNothing("timesSentBack", x -> x.timesSentBack(ticket));
        }
        changesNothing("tickets", TicketChains::tickets);
        changesNothing("ownerOf", x -> x.ownerOf(1));
        changesNothing("milestoneOf", x -> x.milestoneOf(1));
        changesNothing("closedOn", x -> x.closedOn(5));
    }

    private static void queriesOfDependencies() {
        for (int each = 0; each < 12; each++) {
            int ticket = each;
            changesNothing("needs", x -> x.needs(ticket, 9));
            changesNothing("needsOf", x -> x.needsOf(ticket));
            changesNothing("neededBy", x -> x.neededBy(ticket));
            changesNothing("isBlocked", x -> x.isBlocked(ticket));
            changesNothing("blockersOf", x -> x.blockersOf(ticket));
            changesNothing("allNeedsByGoing", x -> x.allNeedsByGoing(ticket));
            changesNothing("allNeedsByTable", x -> x.allNeedsByTable(ticket));
            changesNothing("chainOf", x -> x.chainOf(ticket));
        }
        changesNothing("criticalByTrying", TicketChains::criticalByTrying);
        changesNothing("criticalByOrder", TicketChains::criticalByOrder);
    }

    private static void queriesOfOwnersAndMilestones() {
        for (int each = 0; each < 5; each++) {
            int owner = each;
            changesNothing("capacityOf", x -> x.capacityOf(owner));
            changesNothing("loadByTickets", x -> x.loadByTickets(owner));
            changesNothing("loadByAccount", x -> x.loadByAccount(owner));
            changesNothing("inProgressOf", x -> x.inProgressOf(owner));
            changesNothing("donePointsOf", x -> x.donePointsOf(owner));
        }
        for (int each = 0; each < 4; each++) {
            int milestone = each;
            changesNothing("dateOf", x -> x.dateOf(milestone));
            changesNothing("pointsLeft", x -> x.pointsLeft(milestone));
            changesNothing("pointsDone", x -> x.pointsDone(milestone));
            changesNothing("hundredthsDone", x -> x.hundredthsDone(milestone));
            changesNothing("isLate", x -> x.isLate(milestone));
            changesNothing("misplanned", x -> x.misplanned(milestone));
        }
        changesNothing("freestOwner", TicketChains::freestOwner);
        changesNothing("lateMilestones", TicketChains::lateMilestones);
    }

    private static void queriesOfAll() {
        for (int each = 0; each < 5; each++) {
            int state = each;
            changesNothing("withState", x -> x.withState(state));
            changesNothing("pointsWith", x -> x.pointsWith(state));
            changesNothing("closedAt", x -> x.closedAt(state));
        }
        changesNothing("firstError", TicketChains::firstError);
        changesNothing("savedStates", TicketChains::savedStates);
        changesNothing("nextToDo", TicketChains::nextToDo);
        changesNothing("day", TicketChains::day);
        changesNothing("allPoints", TicketChains::allPoints);
        changesNothing("blockedTickets", TicketChains::blockedTickets);
        changesNothing("closings", TicketChains::closings);
        changesNothing("reopenings", TicketChains::reopenings);
        changesNothing("pointsOfWeek", TicketChains::pointsOfWeek);
        changesNothing("meanDays", TicketChains::meanDays);
        changesNothing("digest", TicketChains::digest);
        TicketChains x = Busy.with(5, "c3;s0;e1");
        due("impossibleOrder", x.impossibleOrder(), 1);
        due("impossibleOrder again", x.impossibleOrder(), 1);
        dueText("impossibleOrder changes nothing", Deep.of(x), Deep.of(Busy.with(5, "c3;s0;e1")));
        others.add("impossibleOrder");
    }

    /** The calls that the document marks, and those that it does not mark, are all here. */
    private static void eachCallOfTheDocument(Path document) throws Exception {
        Set<String> wantUndoable = new TreeSet<>();
        Set<String> wantOthers = new TreeSet<>();
        List<String> lines = new ArrayList<>(Files.readAllLines(document));
        for (int i = 0; i + 2 < lines.size(); i++) {
            String line = lines.get(i);
            if (line.startsWith("## Promise ") && !line.startsWith("## Promise 1:")) {
                String name = line.substring(line.indexOf(": ") + 2);
                (lines.get(i + 2).contains("Undoable") ? wantUndoable : wantOthers).add(name);
            }
        }
        dueText("the undoable calls", String.join("\n", undoable), String.join("\n", wantUndoable));
        dueText("the other calls", String.join("\n", others), String.join("\n", wantOthers));
    }
}
