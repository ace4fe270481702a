import java.lang.management.ManagementFactory;

/** No run of calls makes much: all rows are made with the object, and used anew. */
final class RoomTest extends Due {
    private static final long MOST_BYTES = 200_000L;

    public static void main(String[] args) {
        TicketChains x = new TicketChains();
        for (int ticket = 0; ticket < 20; ticket++) {
            x.openTicket(1 + ticket % 13, ticket % 4);
            for (int needed = 0; needed < ticket; needed++) {
                x.need(ticket, needed);
            }
        }
        x.keep(0);
        dueSmall("digest", x::digest);
        dueSmall("criticalByTrying", x::criticalByTrying);
        dueSmall("criticalByOrder", x::criticalByOrder);
        dueSmall("allNeedsByTable", () -> x.allNeedsByTable(19));
        dueSmall("chainOf", () -> x.chainOf(19));
        dueSmall("closedAt", () -> x.closedAt(19));
        dueSmall("keep", () -> x.keep(1));
        dueSmall("goBack", () -> x.goBack(0));
        dueSmall("goBack and undo", () -> {
            x.goBack(0);
            x.undo();
        });
        dueSmall("impossibleOrder", () -> {
            write(x, "e1;a0@0;s0;r0;e2;n1>0;c0");
            x.impossibleOrder();
        });
        dueSmall("follow", () -> {
            x.clearBuffer();
            x.append('e');
            x.append('1');
            x.follow();
        });
        end("RoomTest");
    }

    private static long made() {
        com.sun.management.ThreadMXBean threads =
                (com.sun.management.ThreadMXBean) ManagementFactory.getThreadMXBean();
        return threads.getThreadAllocatedBytes(Thread.currentThread().getId());
    }

    private static void dueSmall(String call, Call made) {
        made.make();
        long before = made();
        for (int i = 0; i < 512; i++) {
            made.make();
        }
        long bytes = made() - before;
        if (bytes > MOST_BYTES) {
            complain("512 times " + call + " made " + bytes + " bytes");
        }
    }
}
