/** Promise 75: the digest, told again from the answers of the other calls. */
final class DigestTest extends Due {
    private static long hash;

    public static void main(String[] args) {
        promise75NewObject();
        promise75StepByStep();
        promise75BufferAndSlots();
        promise75MeanDays();
        promise75ChangesNothing();
        end("DigestTest");
    }

    private static void put(long value) {
        hash = 31 * hash + value;
    }

    private static void put(boolean value) {
        put(value ? 1 : 0);
    }

    private static void dueDigest(TicketChains x, String when, String buffer, boolean... slots) {
        hash = 4211;
        put(x.tickets());
        for (int ticket = 0; ticket < x.tickets(); ticket++) {
            putTicket(x, ticket);
        }
        for (int owner = 0; owner < 5; owner++) {
            put(x.capacityOf(owner));
            put(x.loadByTickets(owner));
            put(x.loadByAccount(owner));
            put(x.inProgressOf(owner));
            put(x.donePointsOf(owner));
        }
        for (int milestone = 0; milestone < 4; milestone++) {
            put(x.dateOf(milestone));
            put(x.pointsLeft(milestone));
            put(x.pointsDone(milestone));
            put(x.hundredthsDone(milestone));
            put(x.isLate(milestone));
            put(x.misplanned(milestone));
        }
        put(x.freestOwner());
        put(x.criticalByTrying());
        put(x.criticalByOrder());
        putWhatToDo(x);
        put(x.day());
        put(x.blockedTickets());
        put(x.closings());
        put(x.reopenings());
        put(x.pointsOfWeek());
        put(x.savedStates());
        put(Double.doubleToLongBits(x.meanDays()));
        put(slots[0]);
        put(slots[1]);
        put(buffer.length());
        for (int i = 0; i < buffer.length(); i++) {
            put(buffer.charAt(i));
        }
        due("digest " + when, x.digest(), hash);
    }

    private static void putTicket(TicketChains x, int ticket) {
        put(x.stateOf(ticket));
        put(x.pointsOf(ticket));
        put(x.priorityOf(ticket));
        put(x.hasOwner(ticket) ? x.ownerOf(ticket) + 1 : 0);
        put(x.isPlanned(ticket) ? x.milestoneOf(ticket) + 1 : 0);
        put(x.openedOn(ticket));
        put(x.daysInProgress(ticket));
        put(x.timesSentBack(ticket));
        put(x.isBlocked(ticket));
        put(x.blockersOf(ticket));
        put(x.allNeedsByGoing(ticket));
        put(x.allNeedsByTable(ticket));
        put(x.chainOf(ticket));
        for (int other = 0; other < x.tickets(); other++) {
            put(x.needs(ticket, other));
        }
    }

    private static void putWhatToDo(TicketChains x) {
        int next = 0;
        try {
            next = x.nextToDo() + 1;
        } catch (IllegalStateException e) {
            next = 0;
        }
        put(next);
        int places = x.withState(0) + x.withState(1) + x.withState(2);
        for (int place = 0; place < places; place++) {
            put(x.closedAt(place));
        }
    }

    private static void promise75NewObject() {
        dueDigest(new TicketChains(), "of a new object", "", false, false);
        due("digests of two new objects", new TicketChains().digest(), new TicketChains().digest());
    }

    private static void promise75StepByStep() {
        TicketChains x = new TicketChains();
        String[] texts = {"o3", "o5!3", "n0>1", "o8!0", "a0@0;a1@4;a2@2", "s1", "e1", "r1", "e10", "c1;s0;s2", "e9;r0;e1", "c0"};
        for (String text : texts) {
            write(x, text);
            x.follow();
            dueDigest(x, "behind " + text, "", false, false);
        }
        x.plan(2, 0);
        dueDigest(x, "behind plan", "", false, false);
        x.submit(2);
        x.sendBack(2);
        dueDigest(x, "behind sendBack", "", false, false);
        x.reopen(0);
        dueDigest(x, "behind reopen", "", false, false);
        x.drop(0);
        dueDigest(x, "behind drop", "", false, false);
        x.undo();
        dueDigest(x, "behind undo", "", false, false);
    }

    private static void promise75BufferAndSlots() {
        TicketChains x = withTickets(3, 4);
        write(x, "o1~!");
        dueDigest(x, "with a buffer", "o1~!", false, false);
        x.keep(1);
        dueDigest(x, "with slot 1", "o1~!", false, true);
        x.keep(0);
        dueDigest(x, "with both slots", "o1~!", true, true);
        x.openTicket(1, 1);
        x.goBack(1);
        dueDigest(x, "behind goBack", "o1~!", true, true);
        x.undo();
        x.undo();
        dueDigest(x, "behind undo", "o1~!", true, true);
        x.clearBuffer();
        dueDigest(x, "with an empty buffer", "", true, true);
        TicketChains first = withTickets(3);
        first.keep(0);
        dueDigest(first, "with slot 0", "", true, false);
    }

    private static void promise75MeanDays() {
        TicketChains x = withTickets(1, 1, 1, 1, 1, 1, 1, 1, 1, 1, 1, 1, 1, 1, 1, 1, 1, 1, 1, 1);
        for (int ticket = 0; ticket < 20; ticket++) {
            x.assign(ticket, ticket % 5);
            if (ticket % 3 == 0) {
                x.start(ticket);
                x.endDays(1 + ticket);
            } else {
                x.start(ticket);
            }
        }
        for (int ticket = 0; ticket < 20; ticket++) {
            x.submit(ticket);
            x.close(ticket);
            dueDigest(x, "with the mean " + x.meanDays(), "", false, false);
        }
        TicketChains small = withTickets(1, 1, 1, 1, 1, 1, 1, 1, 1, 1, 1, 1, 1, 1, 1, 1, 1, 1, 1, 1);
        small.assign(0, 0);
        small.start(0);
        small.endDays(1);
        for (int ticket = 0; ticket < 20; ticket++) {
            if (ticket > 0) {
                small.assign(ticket, ticket % 5);
                small.start(ticket);
            }
            small.submit(ticket);
            small.close(ticket);
            dueDigest(small, "with the mean " + small.meanDays(), "", false, false);
        }
        TicketChains large = withTickets(1);
        large.assign(0, 0);
        large.start(0);
        for (int i = 0; i < 34; i++) {
            large.endDays(i == 33 ? 9 : 30);
        }
        large.submit(0);
        large.close(0);
        dueDigest(large, "with the mean 999", "", false, false);
    }

    private static void promise75ChangesNothing() {
        TicketChains x = withTickets(3, 4);
        String before = Reading.of(x);
        long digest = x.digest();
        due("digest again", x.digest(), digest);
        dueText("digest changes nothing", Reading.of(x), before);
    }
}
