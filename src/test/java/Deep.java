import java.util.ArrayList;
import java.util.List;

/** All that a tracker holds, the saved states and the slots too, as texts; the tracker is used up by that. */
final class Deep {
    private Deep() {
    }

    static String of(TicketChains x) {
        return "digest " + x.digest() + "\n" + String.join("then\n", states(x)) + slots(x);
    }

    /** What the tracker answers now, and what it answers behind each undo, the latest state first. */
    static List<String> states(TicketChains x) {
        List<String> states = new ArrayList<>();
        states.add(Reading.of(x));
        int saved = x.savedStates();
        for (int back = 0; back < saved; back++) {
            x.undo();
            states.add(Reading.of(x));
        }
        return states;
    }

    static String slots(TicketChains x) {
        return "slot 0\n" + kept(x, 0) + "slot 1\n" + kept(x, 1);
    }

    private static String kept(TicketChains x, int slot) {
        try {
            x.goBack(slot);
        } catch (IllegalStateException e) {
            return "empty\n";
        }
        return Reading.of(x);
    }
}
