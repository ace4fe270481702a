/** What every test uses: it compares answers with those that are due, and makes trackers ready. */
abstract class Due {
    private static int wrong = 0;

    interface Call {
        void make();
    }

    static void due(String call, long got, long want) {
        if (got != want) {
            complain(call + " answered " + got + ", due is " + want);
        }
    }

    static void due(String call, boolean got, boolean want) {
        if (got != want) {
            complain(call + " answered " + got + ", due is " + want);
        }
    }

    static void dueDouble(String call, double got, double want) {
        if (Double.doubleToLongBits(got) != Double.doubleToLongBits(want)) {
            complain(call + " answered " + got + ", due is " + want);
        }
    }

    /** The call has to throw exactly this exception, and to change nothing. */
    static void dueThrow(TicketChains x, String call, Class<? extends RuntimeException> want, Call made) {
        long before = x.digest();
        String readBefore = Reading.of(x);
        String got = "nothing";
        try {
            made.make();
        } catch (RuntimeException e) {
            got = e.getClass().getName();
        }
        if (!got.equals(want.getName())) {
            complain(call + " threw " + got + ", due is " + want.getName());
        }
        due(call + ", the digest behind it", x.digest(), before);
        dueText(call + " changes nothing", Reading.of(x), readBefore);
    }

    static void dueIndex(TicketChains x, String call, Call made) {
        dueThrow(x, call, IndexOutOfBoundsException.class, made);
    }

    static void dueArgument(TicketChains x, String call, Call made) {
        dueThrow(x, call, IllegalArgumentException.class, made);
    }

    static void dueState(TicketChains x, String call, Call made) {
        dueThrow(x, call, IllegalStateException.class, made);
    }

    /** The call has to save a state, and undo has to take back all that it did. */
    static void dueUndoable(TicketChains x, String call, Call made) {
        int saved = x.savedStates();
        String before = Reading.of(x);
        made.make();
        due(call + " saves a state", x.savedStates(), Math.min(saved + 1, 6));
        x.undo();
        dueText(call + " is taken back by undo", Reading.of(x), before);
    }

    static void dueText(String call, String got, String want) {
        if (!got.equals(want)) {
            complain(call + ": the answers are not as due: " + got.replace('\n', ',')
                    + " due are " + want.replace('\n', ','));
        }
    }

    static void complain(String what) {
        wrong++;
        System.out.println(what);
    }

    static void end(String test) {
        System.out.println(test + ": " + (wrong == 0 ? "all answers are as due" : wrong + " answers are not as due"));
        if (wrong != 0) {
            System.exit(1);
        }
    }

    /** A tracker with a ticket of the priority 1 for each number of points. */
    static TicketChains withTickets(int... points) {
        TicketChains x = new TicketChains();
        for (int each : points) {
            x.openTicket(each, 1);
        }
        return x;
    }

    /** A tracker with twenty tickets of the priority 1, all of the same points. */
    static TicketChains withTwenty(int points) {
        TicketChains x = new TicketChains();
        for (int ticket = 0; ticket < 20; ticket++) {
            x.openTicket(points, 1);
        }
        return x;
    }

    static void endDaysTo(TicketChains x, int day) {
        for (int step = 0; step < 40 && x.day() < day; step++) {
            x.endDays(Math.min(30, day - x.day()));
        }
        due("day", x.day(), day);
    }

    static void write(TicketChains x, String text) {
        x.clearBuffer();
        for (int i = 0; i < text.length(); i++) {
            x.append(text.charAt(i));
        }
    }

    static void toReview(TicketChains x, int ticket, int owner) {
        x.assign(ticket, owner);
        x.start(ticket);
        x.submit(ticket);
    }

    static void toClosed(TicketChains x, int ticket, int owner) {
        toReview(x, ticket, owner);
        x.close(ticket);
    }
}
