/** A tracker in which something of all kinds has happened, the same one each time. */
final class Busy {
    private Busy() {
    }

    /**
     * Twelve tickets: 0 open; 1 open with an owner and a milestone; 2 in progress; 3 in review; 4 in review and
     * blocked by 0; 5 closed, and 6, closed, needs it; 7 dropped; 8 needs 1, which needs 9; 10 closed, too large for
     * what its owner 4 can take now; 11 open.
     */
    static TicketChains with(int saved, String buffer) {
        TicketChains x = Due.withTickets(2, 3, 1, 4, 1, 2, 5, 3, 1, 13, 8, 8);
        x.keep(0);
        x.assign(1, 0);
        x.plan(1, 0);
        x.assign(2, 1);
        x.start(2);
        x.endDays(2);
        Due.toReview(x, 3, 1);
        x.need(4, 0);
        Due.toReview(x, 4, 2);
        x.need(6, 5);
        x.plan(6, 1);
        Due.toClosed(x, 5, 3);
        Due.toClosed(x, 6, 3);
        x.keep(1);
        x.assign(7, 4);
        x.plan(7, 2);
        x.drop(7);
        x.need(8, 1);
        x.need(1, 9);
        Due.toClosed(x, 10, 4);
        x.changeCapacity(4, 7);
        x.assign(9, 0);
        for (int day = 50; day < 56; day++) {
            x.changeDate(3, day);
        }
        for (int undone = saved; undone < 6; undone++) {
            x.undo();
        }
        Due.write(x, buffer);
        return x;
    }
}
