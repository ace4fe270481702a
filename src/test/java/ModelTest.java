import java.lang.reflect.InvocationTargetException;
import java.lang.reflect.Method;
import java.util.ArrayList;
import java.util.HashMap;
import java.util.List;
import java.util.Map;
import java.util.Set;

/** Long runs of calls on the program and on PlainTracker side by side: every answer has to be the same. */
final class ModelTest extends Due {
    private static final int RUNS = 1200;
    private static final int CALLS = 512;
    private static final String[] OFTEN = {"need", "need", "assign", "assign", "assign", "start", "start", "submit",
        "submit", "close", "close", "close", "plan", "plan", "endDays", "sendBack", "reopen", "release", "unassign",
        "unplan", "reestimate", "drop", "changeCapacity", "openTicket", "openTicket", "misplanned", "keep", "undo",
        "closedAt", "digest", "digest"};

    private static final Set<String> OF_FEW = Set.of("capacityOf", "loadByTickets", "loadByAccount", "inProgressOf",
        "donePointsOf", "dateOf", "pointsLeft", "pointsDone", "hundredthsDone", "isLate", "misplanned");

    private final Map<String, Method> program = new HashMap<>();
    private final Map<String, Method> model = new HashMap<>();
    private final List<String> names = new ArrayList<>();
    private final Map<String, Integer> answered = new HashMap<>();
    private long seed;
    private boolean longDays;
    private int ticketCount;

    public static void main(String[] args) throws Exception {
        ModelTest test = new ModelTest();
        test.readFaces();
        for (int run = 0; run < RUNS; run++) {
            if (!test.run(run)) {
                break;
            }
        }
        test.dueReached();
        end("ModelTest");
    }

    private void readFaces() throws Exception {
        for (Method each : TicketChains.class.getMethods()) {
            if (each.getDeclaringClass() == TicketChains.class) {
                program.put(each.getName(), each);
                model.put(each.getName(), PlainTracker.class.getMethod(each.getName(), each.getParameterTypes()));
                names.add(each.getName());
            }
        }
        names.sort(null);
        due("calls of the face", names.size(), 74);
    }

    /** A number from 0 to below the bound; the same ones in each run of the test. */
    private int pick(int bound) {
        seed = seed * 6364136223846793005L + 1442695040888963407L;
        return (int) ((seed >>> 33) % bound);
    }

    private boolean run(int run) {
        seed = 1000003L * run + 17;
        TicketChains x = new TicketChains();
        PlainTracker y = new PlainTracker();
        StringBuilder told = new StringBuilder();
        longDays = run % 4 == 1;
        int soon = run % 5 == 0 ? 0 : 1 + pick(20);
        boolean fine = true;
        for (int call = 0; call < CALLS && fine; call++) {
            ticketCount = y.tickets();
            String name = call < soon ? "openTicket" : nextName(run, call);
            if (name.equals("append")) {
                for (char sign : nextText().toCharArray()) {
                    fine &= same(x, y, told, "append", new Object[] {(int) sign});
                    call++;
                }
                fine &= same(x, y, told, "firstError", new Object[0]);
                fine &= same(x, y, told, "impossibleOrder", new Object[0]);
                fine &= same(x, y, told, pick(4) == 0 ? "clearBuffer" : "follow", new Object[0]);
                if (pick(2) == 0) {
                    fine &= same(x, y, told, "clearBuffer", new Object[0]);
                }
                call += 4;
            } else {
                fine &= same(x, y, told, name, arguments(name, y));
            }
        }
        return fine && sameStatesAndSlots(x, y, told);
    }

    /** Behind the last call: all saved states, then what the slots hold. */
    private boolean sameStatesAndSlots(TicketChains x, PlainTracker y, StringBuilder told) {
        boolean fine = same(x, y, told, "digest", new Object[0]);
        for (int back = 0; back < 7 && fine; back++) {
            fine = same(x, y, told, "undo", new Object[0]) && same(x, y, told, "digest", new Object[0]);
        }
        for (int slot = 0; slot < 2 && fine; slot++) {
            fine = same(x, y, told, "goBack", new Object[] {slot}) && same(x, y, told, "digest", new Object[0]);
        }
        return fine;
    }

    private String nextName(int run, int call) {
        if (pick(40) == 0) {
            return "append";
        }
        if (run % 6 == 0 && call < 120) {
            return pick(3) == 0 ? "openTicket" : "need";
        }
        if (longDays && pick(10) == 0) {
            return "endDays";
        }
        return pick(3) == 0 ? names.get(pick(names.size())) : OFTEN[pick(OFTEN.length)];
    }

    private Object[] arguments(String name, PlainTracker y) {
        Object[] arguments = new Object[program.get(name).getParameterCount()];
        for (int i = 0; i < arguments.length; i++) {
            arguments[i] = argument(name, i);
        }
        int fitting = pick(3) == 0 ? -1 : fittingTicket(name, y);
        if (fitting >= 0) {
            arguments[0] = fitting;
        }
        for (int needed = 0; name.equals("release") && fitting >= 0 && needed < y.tickets(); needed++) {
            arguments[1] = y.needs(fitting, needed) ? needed : arguments[1];
        }
        return arguments;
    }

    /** A ticket in the state that the call wants, so that many calls answer; -1 if there is none. */
    private int fittingTicket(String name, PlainTracker y) {
        List<Integer> fitting = new ArrayList<>();
        for (int ticket = 0; ticket < y.tickets(); ticket++) {
            if (fits(name, y, ticket)) {
                fitting.add(ticket);
            }
        }
        return fitting.isEmpty() ? -1 : fitting.get(pick(fitting.size()));
    }

    private static boolean fits(String name, PlainTracker y, int ticket) {
        switch (name) {
            case "start":
                return y.stateOf(ticket) == 0 && y.hasOwner(ticket);
            case "submit":
                return y.stateOf(ticket) == 1;
            case "sendBack":
                return y.stateOf(ticket) == 2;
            case "close":
                return y.stateOf(ticket) == 2 && !y.isBlocked(ticket);
            case "reopen":
            case "closedOn":
                return y.stateOf(ticket) == 3;
            case "unassign":
            case "ownerOf":
                return y.hasOwner(ticket);
            case "unplan":
            case "milestoneOf":
                return y.isPlanned(ticket);
            case "release":
                return y.needsOf(ticket) > 0;
            case "reestimate":
                return y.stateOf(ticket) < 3 && y.hasOwner(ticket);
            default:
                return false;
        }
    }

    /** Mostly one that there is. */
    private int ticket() {
        return pick(16) == 0 || ticketCount == 0 ? pick(20) : pick(ticketCount);
    }

    private int argument(String name, int place) {
        if (pick(60) == 0) {
            int[] odd = {Integer.MIN_VALUE, -1, 20, 31, 32, 100, 1000, Integer.MAX_VALUE};
            return odd[pick(odd.length)];
        }
        switch (name) {
            case "openTicket":
                return place == 0 ? 1 + pick(pick(2) == 0 ? 13 : 4) : pick(4);
            case "reestimate":
                return place == 0 ? ticket() : pick(15);
            case "changePriority":
                return place == 0 ? ticket() : pick(5);
            case "assign":
                return place == 0 ? ticket() : pick(6);
            case "plan":
                return place == 0 ? ticket() : pick(5);
            case "changeCapacity":
                return place == 0 ? pick(6) : pick(2) == 0 ? 80 + pick(25) : pick(30);
            case "changeDate":
                return place == 0 ? pick(5) : pick(20) == 0 ? 990 + pick(20) : pick(60);
            case "endDays":
                return pick(8) == 0 ? pick(33) : longDays ? 30 - pick(2) : 1 + pick(4);
            case "keep":
            case "goBack":
                return pick(8) == 0 ? 2 : pick(2);
            case "withState":
            case "pointsWith":
                return pick(6) - pick(2);
            default:
                return OF_FEW.contains(name) ? pick(6) : ticket();
        }
    }

    private String nextText() {
        StringBuilder text = new StringBuilder();
        int parts = 1 + pick(6);
        for (int i = 0; i < parts; i++) {
            text.append(i == 0 ? "" : ";").append(nextOrder());
        }
        if (pick(4) == 0) {
            int at = pick(text.length());
            String signs = "onasrce0123456789;!>@x~ \u007f";
            text.setCharAt(at, signs.charAt(pick(signs.length())));
        }
        if (pick(10) == 0) {
            text.setLength(pick(text.length() + 1));
        }
        return text.toString();
    }

    private String nextOrder() {
        int ticket = ticket();
        switch (pick(9)) {
            case 0:
                return "o" + (1 + pick(13)) + (pick(2) == 0 ? "" : "!" + pick(4));
            case 1:
                return "n" + ticket + ">" + ticket();
            case 2:
                return "a" + ticket + "@" + pick(5);
            case 3:
                return "e" + (1 + pick(pick(4) == 0 ? 30 : 3));
            case 4:
                return "s" + ticket;
            case 5:
                return "r" + ticket;
            case 6:
                return "c" + ticket;
            case 7:
                return "s" + ticket + ";r" + ticket + ";c" + ticket;
            default:
                return "a" + ticket + "@" + pick(5) + ";s" + ticket + ";r" + ticket + ";c" + ticket;
        }
    }

    private boolean same(TicketChains x, PlainTracker y, StringBuilder told, String name, Object[] arguments) {
        Object want = answer(model.get(name), y, arguments);
        Object got = answer(program.get(name), x, arguments);
        told.append(name).append(java.util.Arrays.toString(arguments)).append(' ').append(got).append('\n');
        String kind = want instanceof String ? name + " " + want : name;
        answered.merge(kind, 1, Integer::sum);
        if (want == null ? got == null : want.equals(got)) {
            return true;
        }
        complain(told + "the last call is not as due: " + want);
        return false;
    }

    private static Object answer(Method method, Object on, Object[] arguments) {
        try {
            return method.invoke(on, arguments);
        } catch (InvocationTargetException e) {
            return e.getCause().getClass().getName();
        } catch (IllegalAccessException e) {
            return "no access";
        }
    }

    /** Each call has to have answered often, and each of its exceptions to have been thrown, or the runs are too poor. */
    private void dueReached() {
        for (String name : names) {
            due(name + " answered at least 100 times", answered.getOrDefault(name, 0) >= 100, true);
            for (Class<?> each : program.get(name).getExceptionTypes()) {
                int times = answered.getOrDefault(name + " " + each.getName(), 0);
                due(name + " threw " + each.getSimpleName() + " at least 10 times", times >= 10, true);
            }
        }
    }
}
