/** Promises 7 to 9 and 51 to 56: owners, their capacities and loads. */
final class OwnersTest extends Due {
    public static void main(String[] args) {
        promise7Assign();
        promise7AssignRefused();
        promise7IsTheOwnersAlready();
        promise7AtTheCapacity();
        promise8Unassign();
        promise9ChangeCapacity();
        promise51CapacityOf();
        promises52And53Load();
        promise54InProgressOf();
        promise55DonePointsOf();
        promise56FreestOwner();
        promises51To56Empty();
        promises52To55OfTwenty();
        promise56Ties();
        queriesOfMissingOwners();
        end("OwnersTest");
    }

    private static void dueLoad(TicketChains x, int owner, int want) {
        due("loadByTickets " + owner, x.loadByTickets(owner), want);
        due("loadByAccount " + owner, x.loadByAccount(owner), want);
    }

    private static void promise7Assign() {
        TicketChains x = withTickets(5, 7, 8, 1);
        due("assign(0,0)", x.assign(0, 0), 5);
        due("assign(1,0)", x.assign(1, 0), 12);
        due("assign to the capacity", x.assign(2, 0), 20);
        due("assign in place of another owner", x.assign(1, 4), 7);
        dueLoad(x, 0, 13);
        dueLoad(x, 4, 7);
        x.start(1);
        due("assign in progress", x.assign(1, 3), 7);
        x.submit(1);
        due("assign in review", x.assign(1, 2), 7);
        dueLoad(x, 4, 0);
        dueLoad(x, 3, 0);
        TicketChains fresh = withTickets(5);
        dueUndoable(fresh, "assign", () -> fresh.assign(0, 3));
    }

    private static void promise7AssignRefused() {
        TicketChains x = withTickets(13, 8, 7, 1, 1);
        dueIndex(x, "assign(5,0)", () -> x.assign(5, 0));
        dueIndex(x, "assign(-1,0)", () -> x.assign(-1, 0));
        dueIndex(x, "assign(0,5)", () -> x.assign(0, 5));
        dueIndex(x, "assign(0,-1)", () -> x.assign(0, -1));
        x.assign(0, 0);
        dueState(x, "assign to its owner again", () -> x.assign(0, 0));
        dueState(x, "assign above the capacity", () -> x.assign(1, 0));
        due("assign to the capacity", x.assign(2, 0), 20);
        toClosed(x, 3, 1);
        dueState(x, "assign a closed one", () -> x.assign(3, 2));
        dueIndex(x, "assign a closed one to no owner", () -> x.assign(3, 5));
        x.drop(4);
        dueState(x, "assign a dropped one", () -> x.assign(4, 2));
        x.changeCapacity(3, 0);
        dueState(x, "assign to an owner without capacity", () -> x.assign(1, 3));
    }

    private static void promise8Unassign() {
        TicketChains x = withTickets(5, 7);
        dueIndex(x, "unassign(2)", () -> x.unassign(2));
        dueIndex(x, "unassign(-1)", () -> x.unassign(-1));
        dueState(x, "unassign without an owner", () -> x.unassign(0));
        x.assign(0, 3);
        x.assign(1, 3);
        dueUndoable(x, "unassign", () -> x.unassign(0));
        due("unassign(0)", x.unassign(0), 3);
        due("hasOwner(0)", x.hasOwner(0), false);
        dueLoad(x, 3, 7);
        dueState(x, "unassign again", () -> x.unassign(0));
        x.start(1);
        dueState(x, "unassign in progress", () -> x.unassign(1));
        x.submit(1);
        dueState(x, "unassign in review", () -> x.unassign(1));
        x.close(1);
        dueState(x, "unassign a closed one", () -> x.unassign(1));
        x.reopen(1);
        due("unassign one opened again", x.unassign(1), 3);
        dueLoad(x, 3, 0);
        x.assign(0, 0);
        x.drop(0);
        dueState(x, "unassign a dropped one", () -> x.unassign(0));
    }

    private static void promise9ChangeCapacity() {
        TicketChains x = withTickets(5, 7);
        due("changeCapacity(0,99)", x.changeCapacity(0, 99), 20);
        due("changeCapacity(0,0)", x.changeCapacity(0, 0), 99);
        due("capacityOf(0)", x.capacityOf(0), 0);
        dueIndex(x, "changeCapacity(5,100)", () -> x.changeCapacity(5, 100));
        dueIndex(x, "changeCapacity(-1,1)", () -> x.changeCapacity(-1, 1));
        dueArgument(x, "changeCapacity(0,100)", () -> x.changeCapacity(0, 100));
        dueArgument(x, "changeCapacity(0,-1)", () -> x.changeCapacity(0, -1));
        x.assign(1, 4);
        dueState(x, "changeCapacity below the load", () -> x.changeCapacity(4, 6));
        dueArgument(x, "changeCapacity below 0", () -> x.changeCapacity(4, -1));
        due("changeCapacity to the load", x.changeCapacity(4, 7), 20);
        dueUndoable(x, "changeCapacity to the same", () -> x.changeCapacity(4, 7));
        dueUndoable(x, "changeCapacity", () -> x.changeCapacity(4, 8));
    }

    private static void promise51CapacityOf() {
        TicketChains x = new TicketChains();
        x.changeCapacity(1, 33);
        x.changeCapacity(4, 44);
        int[] capacities = {20, 33, 20, 20, 44};
        for (int owner = 0; owner < 5; owner++) {
            due("capacityOf " + owner, x.capacityOf(owner), capacities[owner]);
        }
    }

    private static void promises52And53Load() {
        TicketChains x = withTickets(1, 2, 4, 8);
        for (int ticket = 0; ticket < 4; ticket++) {
            x.assign(ticket, 1);
        }
        dueLoad(x, 1, 15);
        dueLoad(x, 0, 0);
        x.start(0);
        x.start(1);
        x.submit(1);
        dueLoad(x, 1, 15);
        x.close(1);
        dueLoad(x, 1, 13);
        x.drop(2);
        dueLoad(x, 1, 9);
        x.reopen(1);
        dueLoad(x, 1, 11);
        x.reestimate(3, 3);
        dueLoad(x, 1, 6);
        x.unassign(3);
        dueLoad(x, 1, 3);
        x.drop(3);
        dueLoad(x, 1, 3);
        x.undo();
        x.undo();
        dueLoad(x, 1, 6);
    }

    private static void promise54InProgressOf() {
        TicketChains x = withTickets(1, 1, 1, 1);
        x.assign(0, 2);
        x.assign(1, 2);
        x.assign(2, 3);
        due("inProgressOf, none started", x.inProgressOf(2), 0);
        x.start(0);
        x.start(1);
        x.start(2);
        due("inProgressOf(2)", x.inProgressOf(2), 2);
        due("inProgressOf(3)", x.inProgressOf(3), 1);
        due("inProgressOf(0)", x.inProgressOf(0), 0);
        x.submit(0);
        due("inProgressOf, one submitted", x.inProgressOf(2), 1);
        x.sendBack(0);
        due("inProgressOf, one sent back", x.inProgressOf(2), 2);
        x.drop(0);
        due("inProgressOf, one dropped", x.inProgressOf(2), 1);
    }

    private static void promise55DonePointsOf() {
        TicketChains x = withTickets(3, 5, 7, 2);
        toClosed(x, 0, 4);
        toClosed(x, 1, 4);
        toClosed(x, 2, 0);
        x.assign(3, 4);
        due("donePointsOf(4)", x.donePointsOf(4), 8);
        due("donePointsOf(0)", x.donePointsOf(0), 7);
        due("donePointsOf(1)", x.donePointsOf(1), 0);
        x.drop(3);
        due("donePointsOf, one dropped", x.donePointsOf(4), 8);
        x.reopen(1);
        due("donePointsOf, one opened again", x.donePointsOf(4), 3);
    }

    private static void promise56FreestOwner() {
        TicketChains x = withTickets(5, 5, 3, 5, 5);
        due("freestOwner of equal ones", x.freestOwner(), 0);
        x.assign(0, 0);
        due("freestOwner, 0 has a load", x.freestOwner(), 1);
        x.assign(1, 1);
        x.assign(2, 2);
        x.assign(3, 3);
        x.assign(4, 4);
        due("freestOwner, the smallest load", x.freestOwner(), 2);
        x.changeCapacity(4, 22);
        due("freestOwner of two", x.freestOwner(), 2);
        x.changeCapacity(4, 23);
        due("freestOwner, the last", x.freestOwner(), 4);
        x.drop(0);
        due("freestOwner, after one was dropped", x.freestOwner(), 0);
        for (int owner = 0; owner < 5; owner++) {
            x.changeCapacity(owner, x.loadByAccount(owner));
        }
        due("freestOwner, nothing left", x.freestOwner(), 0);
    }

    private static void queriesOfMissingOwners() {
        TicketChains x = withTickets(5);
        int[] missing = {5, -1, Integer.MAX_VALUE, Integer.MIN_VALUE};
        for (int owner : missing) {
            dueIndex(x, "capacityOf " + owner, () -> x.capacityOf(owner));
            dueIndex(x, "loadByTickets " + owner, () -> x.loadByTickets(owner));
            dueIndex(x, "loadByAccount " + owner, () -> x.loadByAccount(owner));
            dueIndex(x, "inProgressOf " + owner, () -> x.inProgressOf(owner));
            dueIndex(x, "donePointsOf " + owner, () -> x.donePointsOf(owner));
        }
    }

    private static void promise7IsTheOwnersAlready() {
        TicketChains x = withTickets(1);
        for (int owner = 0; owner < 5; owner++) {
            int to = owner;
            due("assign to " + owner, x.assign(0, owner), 1);
            dueState(x, "assign to " + owner + " again", () -> x.assign(0, to));
        }
        x.start(0);
        dueState(x, "assign to its owner in progress", () -> x.assign(0, 4));
        x.submit(0);
        dueState(x, "assign to its owner in review", () -> x.assign(0, 4));
        due("assign to another one in review", x.assign(0, 0), 1);
        x.assign(0, 4);
        x.close(0);
        x.reopen(0);
        dueState(x, "assign to the owner that stayed", () -> x.assign(0, 4));
        x.unassign(0);
        due("assign to the owner that it had before", x.assign(0, 4), 1);
    }

    private static void promise7AtTheCapacity() {
        TicketChains x = withTwenty(13);
        x.changeCapacity(4, 99);
        for (int ticket = 0; ticket < 7; ticket++) {
            due("assign " + ticket, x.assign(ticket, 4), 13 * (ticket + 1));
        }
        dueState(x, "assign 13 to 91 of 99", () -> x.assign(7, 4));
        x.reestimate(7, 9);
        dueState(x, "assign 9 to 91 of 99", () -> x.assign(7, 4));
        x.reestimate(7, 8);
        due("assign 8 to 91 of 99", x.assign(7, 4), 99);
        x.reestimate(8, 1);
        dueState(x, "assign 1 to 99 of 99", () -> x.assign(8, 4));
        dueState(x, "changeCapacity to 98 with a load of 99", () -> x.changeCapacity(4, 98));
        due("changeCapacity to 99 with a load of 99", x.changeCapacity(4, 99), 99);
        x.drop(0);
        due("assign 1 behind the drop of 13", x.assign(8, 4), 87);
        TicketChains moved = withTickets(5, 5);
        moved.changeCapacity(0, 5);
        moved.changeCapacity(1, 4);
        moved.assign(0, 0);
        dueState(moved, "assign in place of another one, above the capacity", () -> moved.assign(0, 1));
        dueState(moved, "assign above a capacity that is used up", () -> moved.assign(1, 0));
        moved.changeCapacity(1, 5);
        due("assign in place of another one, to the capacity", moved.assign(0, 1), 5);
        due("assign what the other one has left", moved.assign(1, 0), 5);
    }

    private static void promises51To56Empty() {
        TicketChains x = new TicketChains();
        for (int owner = 0; owner < 5; owner++) {
            due("capacityOf " + owner, x.capacityOf(owner), 20);
            dueLoad(x, owner, 0);
            due("inProgressOf " + owner, x.inProgressOf(owner), 0);
            due("donePointsOf " + owner, x.donePointsOf(owner), 0);
        }
        due("freestOwner", x.freestOwner(), 0);
    }

    private static void promises52To55OfTwenty() {
        TicketChains x = withTwenty(1);
        for (int ticket = 0; ticket < 20; ticket++) {
            due("assign " + ticket, x.assign(ticket, 3), ticket + 1);
            x.start(ticket);
            due("inProgressOf(3)", x.inProgressOf(3), ticket + 1);
        }
        dueLoad(x, 3, 20);
        for (int ticket = 0; ticket < 20; ticket++) {
            x.submit(ticket);
            x.close(ticket);
            due("inProgressOf(3)", x.inProgressOf(3), 19 - ticket);
            due("donePointsOf(3)", x.donePointsOf(3), ticket + 1);
            dueLoad(x, 3, 19 - ticket);
        }
        TicketChains large = withTwenty(13);
        for (int ticket = 0; ticket < 20; ticket++) {
            toClosed(large, ticket, 0);
        }
        due("donePointsOf all", large.donePointsOf(0), 260);
        dueLoad(large, 0, 0);
        due("changeCapacity to 0 with all closed", large.changeCapacity(0, 0), 20);
        dueState(large, "reopen without capacity", () -> large.reopen(0));
    }

    private static void promise56Ties() {
        TicketChains x = new TicketChains();
        for (int owner = 4; owner >= 0; owner--) {
            x.changeCapacity(owner, 21);
            due("freestOwner, " + owner + " has one more too", x.freestOwner(), owner);
        }
        for (int owner = 0; owner < 4; owner++) {
            x.changeCapacity(owner, 20);
            due("freestOwner, " + owner + " has one fewer", x.freestOwner(), owner + 1);
        }
        TicketChains zero = new TicketChains();
        for (int owner = 0; owner < 5; owner++) {
            zero.changeCapacity(owner, 0);
        }
        due("freestOwner without capacity", zero.freestOwner(), 0);
        zero.changeCapacity(4, 1);
        due("freestOwner, the last one has 1", zero.freestOwner(), 4);
    }
}
