/** All that a tracker holds, the saved states and the slots too, as a text; the tracker is used up by that. */
final class Deep {
    private Deep() {
    }

    static String of(TicketChains x) {
        StringBuilder text = new StringBuilder();
        text.append("digest ").append(x.digest()).append('\n').append(Reading.of(x));
        int saved = x.savedStates();
        for (int back = 1; back <= saved; back++) {
            x.undo();
            text.append(back).append(" states before\n").append(Reading.of(x));
        }
        for (int slot = 0; slot < 2; slot++) {
            text.append("slot ").append(slot).append('\n').append(kept(x, slot));
        }
        return text.toString();
    }

    private static String kept(TicketChains x, int slot) {
        try {
            x.goBack(slot);
        } catch (IllegalStateException e) {
            return "empty\n";
        }
        return Reading.of(x);
    }
}
