/**
 * A tracker of tickets with dependencies, owners, milestones, orders as texts, snapshots and undo.
 * The document of the class numbers its promises; each public call here keeps the one of its name.
 */
public final class TicketChains {
    private static final int MOST_TICKETS = 20;
    private static final int MOST_OWNERS = 5;
    private static final int MOST_MILESTONES = 4;
    private static final int MOST_POINTS = 13;
    private static final int MOST_PRIORITY = 3;
    private static final int MOST_CAPACITY = 99;
    private static final int FIRST_CAPACITY = 20;
    private static final int LAST_DAY = 999;
    private static final int MOST_DAYS_AT_ONCE = 30;
    private static final int DAYS_BETWEEN_MILESTONES = 10;
    private static final int DAYS_AHEAD_IN_WEEK = 6;
    private static final int MOST_SIGNS = 60;
    private static final int FIRST_SIGN = 33;
    private static final int LAST_SIGN = 126;
    /** An order takes two signs and one more between it and the next: 60 signs hold 20 orders at most. */
    private static final int MOST_ORDERS = 20;
    private static final int PRIORITY_IF_LEFT_OUT = 1;
    private static final int MOST_SLOTS = 2;
    private static final int MOST_SAVED = 6;

    private static final int OPEN = 0;
    private static final int IN_PROGRESS = 1;
    private static final int IN_REVIEW = 2;
    private static final int CLOSED = 3;
    private static final int DROPPED = 4;

    private static final int NONE = -1;
    private static final int ALL_TICKETS = (1 << MOST_TICKETS) - 1;

    private static final long HASH_START = 4211L;
    private static final long HASH_FACTOR = 31L;

    private final Board board;
    private final Board trial;
    private final Chains chains;
    private final History history;
    private final OrderText text;

    public TicketChains() {
        board = new Board();
        trial = new Board();
        chains = new Chains();
        history = new History();
        text = new OrderText();
    }

    // ---- tickets

    public int openTicket(int points, int priority) throws IllegalArgumentException, IllegalStateException {
        requireArgument(within(points, 1, MOST_POINTS) && within(priority, 0, MOST_PRIORITY));
        requireState(board.hasRoom());
        history.save(board);
        return board.addTicket(points, priority);
    }

    public int reestimate(int ticket, int points)
            throws IndexOutOfBoundsException, IllegalArgumentException, IllegalStateException {
        requireIndex(board.hasTicket(ticket));
        requireArgument(within(points, 1, MOST_POINTS));
        requireState(board.canHavePoints(ticket, points));
        history.save(board);
        return board.setPoints(ticket, points);
    }

    public int changePriority(int ticket, int priority) throws IndexOutOfBoundsException, IllegalArgumentException {
        requireIndex(board.hasTicket(ticket));
        requireArgument(within(priority, 0, MOST_PRIORITY));
        history.save(board);
        return board.setPriority(ticket, priority);
    }

    // ---- dependencies

    public int need(int ticket, int needed)
            throws IndexOutOfBoundsException, IllegalArgumentException, IllegalStateException {
        requireIndex(board.hasTicket(ticket) && board.hasTicket(needed));
        requireArgument(ticket != needed);
        requireState(board.canNeed(ticket, needed));
        history.save(board);
        return board.addNeed(ticket, needed);
    }

    public int release(int ticket, int needed) throws IndexOutOfBoundsException, IllegalStateException {
        requireIndex(board.hasTicket(ticket) && board.hasTicket(needed));
        requireState(board.needsDirectly(ticket, needed));
        history.save(board);
        return board.removeNeed(ticket, needed);
    }

    // ---- owners

    public int assign(int ticket, int owner) throws IndexOutOfBoundsException, IllegalStateException {
        requireIndex(board.hasTicket(ticket) && isOwner(owner));
        requireState(board.canBeGivenTo(ticket, owner));
        history.save(board);
        return board.giveTo(ticket, owner);
    }

    public int unassign(int ticket) throws IndexOutOfBoundsException, IllegalStateException {
        requireIndex(board.hasTicket(ticket));
        requireState(board.owners[ticket] != NONE && board.states[ticket] == OPEN);
        history.save(board);
        return board.takeFromOwner(ticket);
    }

    public int changeCapacity(int owner, int capacity)
            throws IndexOutOfBoundsException, IllegalArgumentException, IllegalStateException {
        requireIndex(isOwner(owner));
        requireArgument(within(capacity, 0, MOST_CAPACITY));
        requireState(board.loads[owner] <= capacity);
        history.save(board);
        return board.setCapacity(owner, capacity);
    }

    // ---- milestones, days

    public int plan(int ticket, int milestone) throws IndexOutOfBoundsException, IllegalStateException {
        requireIndex(board.hasTicket(ticket) && isMilestone(milestone));
        requireState(board.isUnfinished(ticket) && board.milestones[ticket] != milestone);
        history.save(board);
        board.milestones[ticket] = milestone;
        return Sums.leftFor(board, milestone);
    }

    public int unplan(int ticket) throws IndexOutOfBoundsException, IllegalStateException {
        requireIndex(board.hasTicket(ticket));
        requireState(board.milestones[ticket] != NONE && board.isUnfinished(ticket));
        history.save(board);
        return board.takeFromMilestone(ticket);
    }

    public int changeDate(int milestone, int day) throws IndexOutOfBoundsException, IllegalArgumentException {
        requireIndex(isMilestone(milestone));
        requireArgument(within(day, 0, LAST_DAY));
        history.save(board);
        return board.setDate(milestone, day);
    }

    public int endDays(int days) throws IllegalArgumentException, IllegalStateException {
        requireArgument(within(days, 1, MOST_DAYS_AT_ONCE));
        requireState(board.canPass(days));
        history.save(board);
        return board.pass(days);
    }

    // ---- states of tickets

    public void start(int ticket) throws IndexOutOfBoundsException, IllegalStateException {
        requireIndex(board.hasTicket(ticket));
        requireState(board.canStart(ticket));
        history.save(board);
        board.states[ticket] = IN_PROGRESS;
    }

    public void submit(int ticket) throws IndexOutOfBoundsException, IllegalStateException {
        requireIndex(board.hasTicket(ticket));
        requireState(board.states[ticket] == IN_PROGRESS);
        history.save(board);
        board.states[ticket] = IN_REVIEW;
    }

    public int sendBack(int ticket) throws IndexOutOfBoundsException, IllegalStateException {
        requireIndex(board.hasTicket(ticket));
        requireState(board.states[ticket] == IN_REVIEW);
        history.save(board);
        return board.putBack(ticket);
    }

    public int close(int ticket) throws IndexOutOfBoundsException, IllegalStateException {
        requireIndex(board.hasTicket(ticket));
        requireState(board.canClose(ticket));
        history.save(board);
        int blockedBefore = board.blockedSet();
        board.finish(ticket);
        return Integer.bitCount(blockedBefore & ~board.blockedSet());
    }

    public int reopen(int ticket) throws IndexOutOfBoundsException, IllegalStateException {
        requireIndex(board.hasTicket(ticket));
        requireState(board.canReopen(ticket));
        history.save(board);
        int blockedBefore = board.blockedSet();
        board.openAgain(ticket);
        return Integer.bitCount(board.blockedSet() & ~blockedBefore);
    }

    public int drop(int ticket) throws IndexOutOfBoundsException, IllegalStateException {
        requireIndex(board.hasTicket(ticket));
        requireState(board.isUnfinished(ticket));
        history.save(board);
        int blockedBefore = board.blockedSet();
        board.leaveOff(ticket, DROPPED);
        return Integer.bitCount(blockedBefore & ~board.blockedSet());
    }

    // ---- texts

    public int append(int code) throws IllegalArgumentException, IllegalStateException {
        requireArgument(within(code, FIRST_SIGN, LAST_SIGN));
        requireState(text.hasRoom());
        return text.add((char) code);
    }

    public int clearBuffer() {
        return text.clear();
    }

    public int firstError() {
        return text.errorPlace();
    }

    public int follow() throws IllegalArgumentException, IllegalStateException {
        requireArgument(text.tellsOrders());
        trial.copyFrom(board);
        requireState(text.followOn(trial) == NONE);
        history.save(board);
        int closedBefore = board.closingCount;
        board.copyFrom(trial);
        text.clear();
        return board.closingCount - closedBefore;
    }

    public int impossibleOrder() throws IllegalArgumentException, IllegalStateException {
        requireArgument(text.tellsOrders());
        trial.copyFrom(board);
        int order = text.followOn(trial);
        requireState(order != NONE);
        return order;
    }

    // ---- snapshots, undo

    public void keep(int slot) throws IllegalArgumentException {
        requireArgument(isSlot(slot));
        history.keepIn(slot, board);
    }

    public void goBack(int slot) throws IllegalArgumentException, IllegalStateException {
        requireArgument(isSlot(slot));
        requireState(history.hasKept(slot));
        history.save(board);
        history.restoreKept(slot, board);
    }

    public void undo() throws IllegalStateException {
        requireState(history.savedCount() > 0);
        history.restoreSaved(board);
    }

    public int savedStates() {
        return history.savedCount();
    }

    // ---- tickets as they are; nothing is changed

    public int tickets() {
        return board.ticketCount;
    }

    public int stateOf(int ticket) throws IndexOutOfBoundsException {
        requireIndex(board.hasTicket(ticket));
        return board.states[ticket];
    }

    public int pointsOf(int ticket) throws IndexOutOfBoundsException {
        requireIndex(board.hasTicket(ticket));
        return board.points[ticket];
    }

    public int priorityOf(int ticket) throws IndexOutOfBoundsException {
        requireIndex(board.hasTicket(ticket));
        return board.priorities[ticket];
    }

    public boolean hasOwner(int ticket) throws IndexOutOfBoundsException {
        requireIndex(board.hasTicket(ticket));
        return board.owners[ticket] != NONE;
    }

    public int ownerOf(int ticket) throws IndexOutOfBoundsException, IllegalStateException {
        requireIndex(board.hasTicket(ticket));
        requireState(board.owners[ticket] != NONE);
        return board.owners[ticket];
    }

    public boolean isPlanned(int ticket) throws IndexOutOfBoundsException {
        requireIndex(board.hasTicket(ticket));
        return board.milestones[ticket] != NONE;
    }

    public int milestoneOf(int ticket) throws IndexOutOfBoundsException, IllegalStateException {
        requireIndex(board.hasTicket(ticket));
        requireState(board.milestones[ticket] != NONE);
        return board.milestones[ticket];
    }

    public int openedOn(int ticket) throws IndexOutOfBoundsException {
        requireIndex(board.hasTicket(ticket));
        return board.openingDays[ticket];
    }

    public int closedOn(int ticket) throws IndexOutOfBoundsException, IllegalStateException {
        requireIndex(board.hasTicket(ticket));
        requireState(board.states[ticket] == CLOSED);
        return board.closingDays[ticket];
    }

    public int daysInProgress(int ticket) throws IndexOutOfBoundsException {
        requireIndex(board.hasTicket(ticket));
        return board.progressDays[ticket];
    }

    public int timesSentBack(int ticket) throws IndexOutOfBoundsException {
        requireIndex(board.hasTicket(ticket));
        return board.putBackCounts[ticket];
    }

    // ---- dependencies; nothing is changed

    public boolean needs(int ticket, int needed) throws IndexOutOfBoundsException {
        requireIndex(board.hasTicket(ticket) && board.hasTicket(needed));
        return board.needsDirectly(ticket, needed);
    }

    public int needsOf(int ticket) throws IndexOutOfBoundsException {
        requireIndex(board.hasTicket(ticket));
        return Integer.bitCount(board.needSets[ticket]);
    }

    public int neededBy(int ticket) throws IndexOutOfBoundsException {
        requireIndex(board.hasTicket(ticket));
        return Integer.bitCount(board.thoseThatNeed(ticket));
    }

    public boolean isBlocked(int ticket) throws IndexOutOfBoundsException {
        requireIndex(board.hasTicket(ticket));
        return board.blockerSet(ticket) != 0;
    }

    public int blockersOf(int ticket) throws IndexOutOfBoundsException {
        requireIndex(board.hasTicket(ticket));
        return Integer.bitCount(board.blockerSet(ticket));
    }

    public int allNeedsByGoing(int ticket) throws IndexOutOfBoundsException {
        requireIndex(board.hasTicket(ticket));
        return Integer.bitCount(board.reachedFrom(ticket));
    }

    public int allNeedsByTable(int ticket) throws IndexOutOfBoundsException {
        requireIndex(board.hasTicket(ticket));
        return chains.countByTable(board, ticket);
    }

    public int chainOf(int ticket) throws IndexOutOfBoundsException {
        requireIndex(board.hasTicket(ticket));
        return Chains.longestFrom(board, ticket);
    }

    public int criticalByTrying() {
        return chains.mostPointsByTrying(board);
    }

    public int criticalByOrder() {
        return chains.mostPointsByOrder(board);
    }

    // ---- owners; nothing is changed

    public int capacityOf(int owner) throws IndexOutOfBoundsException {
        requireIndex(isOwner(owner));
        return board.capacities[owner];
    }

    public int loadByTickets(int owner) throws IndexOutOfBoundsException {
        requireIndex(isOwner(owner));
        return Sums.loadOf(board, owner);
    }

    public int loadByAccount(int owner) throws IndexOutOfBoundsException {
        requireIndex(isOwner(owner));
        return board.loads[owner];
    }

    public int inProgressOf(int owner) throws IndexOutOfBoundsException {
        requireIndex(isOwner(owner));
        return Sums.inProgressWith(board, owner);
    }

    public int donePointsOf(int owner) throws IndexOutOfBoundsException {
        requireIndex(isOwner(owner));
        return Sums.doneBy(board, owner);
    }

    public int freestOwner() {
        return Sums.ownerWithMostLeft(board);
    }

    // ---- milestones; nothing is changed

    public int dateOf(int milestone) throws IndexOutOfBoundsException {
        requireIndex(isMilestone(milestone));
        return board.dates[milestone];
    }

    public int pointsLeft(int milestone) throws IndexOutOfBoundsException {
        requireIndex(isMilestone(milestone));
        return Sums.leftFor(board, milestone);
    }

    public int pointsDone(int milestone) throws IndexOutOfBoundsException {
        requireIndex(isMilestone(milestone));
        return Sums.doneFor(board, milestone);
    }

    public int hundredthsDone(int milestone) throws IndexOutOfBoundsException {
        requireIndex(isMilestone(milestone));
        return Sums.hundredthsFor(board, milestone);
    }

    public boolean isLate(int milestone) throws IndexOutOfBoundsException {
        requireIndex(isMilestone(milestone));
        return Sums.isOverdue(board, milestone);
    }

    public int misplanned(int milestone) throws IndexOutOfBoundsException {
        requireIndex(isMilestone(milestone));
        return Sums.plannedTooEarly(board, milestone);
    }

    public int lateMilestones() {
        return Sums.overdueMilestones(board);
    }

    // ---- what to do, accounts; nothing is changed

    public int nextToDo() throws IllegalStateException {
        int ticket = Chains.nextOpen(board);
        requireState(ticket != NONE);
        return ticket;
    }

    public int closedAt(int place) throws IndexOutOfBoundsException {
        int places = chains.fillClosingOrder(board);
        requireIndex(within(place, 0, places - 1));
        return chains.closingOrder[place];
    }

    public int day() {
        return board.today;
    }

    public int withState(int state) throws IllegalArgumentException {
        requireArgument(within(state, OPEN, DROPPED));
        return Integer.bitCount(board.inState(state));
    }

    public int pointsWith(int state) throws IllegalArgumentException {
        requireArgument(within(state, OPEN, DROPPED));
        return board.pointsOfSet(board.inState(state));
    }

    public int allPoints() {
        return board.pointsOfSet(ALL_TICKETS);
    }

    public int blockedTickets() {
        return Sums.blockedAndUnfinished(board);
    }

    public int closings() {
        return board.closingCount;
    }

    public int reopenings() {
        return board.reopeningCount;
    }

    public int pointsOfWeek() {
        return Sums.closedInWeek(board);
    }

    public double meanDays() {
        return Sums.meanProgress(board);
    }

    public long digest() {
        long hash = mixed(HASH_START, board.ticketCount);
        for (int ticket = 0; ticket < board.ticketCount; ticket++) {
            hash = withTicket(hash, ticket);
        }
        for (int owner = 0; owner < MOST_OWNERS; owner++) {
            hash = withOwner(hash, owner);
        }
        for (int milestone = 0; milestone < MOST_MILESTONES; milestone++) {
            hash = withMilestone(hash, milestone);
        }
        hash = mixed(hash, Sums.ownerWithMostLeft(board));
        hash = mixed(hash, chains.mostPointsByTrying(board));
        hash = mixed(hash, chains.mostPointsByOrder(board));
        hash = withWhatToDo(hash);
        hash = withAccounts(hash);
        for (int slot = 0; slot < MOST_SLOTS; slot++) {
            hash = mixed(hash, oneIf(history.hasKept(slot)));
        }
        return text.mixedInto(hash);
    }

    // ---- parts of the digest

    private long withTicket(long before, int ticket) {
        long hash = mixed(before, board.states[ticket]);
        hash = mixed(hash, board.points[ticket]);
        hash = mixed(hash, board.priorities[ticket]);
        hash = mixed(hash, board.owners[ticket] + 1);
        hash = mixed(hash, board.milestones[ticket] + 1);
        hash = mixed(hash, board.openingDays[ticket]);
        hash = mixed(hash, board.progressDays[ticket]);
        hash = mixed(hash, board.putBackCounts[ticket]);
        int blockers = Integer.bitCount(board.blockerSet(ticket));
        hash = mixed(hash, oneIf(blockers > 0));
        hash = mixed(hash, blockers);
        hash = mixed(hash, Integer.bitCount(board.reachedFrom(ticket)));
        hash = mixed(hash, chains.countByTable(board, ticket));
        hash = mixed(hash, Chains.longestFrom(board, ticket));
        for (int other = 0; other < board.ticketCount; other++) {
            hash = mixed(hash, oneIf(board.needsDirectly(ticket, other)));
        }
        return hash;
    }

    private long withOwner(long before, int owner) {
        long hash = mixed(before, board.capacities[owner]);
        hash = mixed(hash, Sums.loadOf(board, owner));
        hash = mixed(hash, board.loads[owner]);
        hash = mixed(hash, Sums.inProgressWith(board, owner));
        return mixed(hash, Sums.doneBy(board, owner));
    }

    private long withMilestone(long before, int milestone) {
        long hash = mixed(before, board.dates[milestone]);
        hash = mixed(hash, Sums.leftFor(board, milestone));
        hash = mixed(hash, Sums.doneFor(board, milestone));
        hash = mixed(hash, Sums.hundredthsFor(board, milestone));
        hash = mixed(hash, oneIf(Sums.isOverdue(board, milestone)));
        return mixed(hash, Sums.plannedTooEarly(board, milestone));
    }

    private long withWhatToDo(long before) {
        long hash = mixed(before, Chains.nextOpen(board) + 1);
        int places = chains.fillClosingOrder(board);
        for (int place = 0; place < places; place++) {
            hash = mixed(hash, chains.closingOrder[place]);
        }
        return hash;
    }

    private long withAccounts(long before) {
        long hash = mixed(before, board.today);
        hash = mixed(hash, Sums.blockedAndUnfinished(board));
        hash = mixed(hash, board.closingCount);
        hash = mixed(hash, board.reopeningCount);
        hash = mixed(hash, Sums.closedInWeek(board));
        hash = mixed(hash, history.savedCount());
        return mixed(hash, bitsOf(Sums.meanProgress(board)));
    }

    private static long mixed(long hash, long value) {
        return HASH_FACTOR * hash + value;
    }

    private static int oneIf(boolean so) {
        return so ? 1 : 0;
    }

    /** The bits of a double of 0 or more, worked out here because the library of the language has no call for it. */
    private static long bitsOf(double value) {
        if (value <= 0.0) {
            return 0L;
        }
        long exponent = 1023L;
        double rest = value;
        for (int step = 0; step < 1100 && rest >= 2.0; step++) {
            rest = rest / 2.0;
            exponent++;
        }
        for (int step = 0; step < 1100 && rest < 1.0; step++) {
            rest = rest * 2.0;
            exponent--;
        }
        // 4503599627370496 is 2 to the 52nd, the number of steps between 1.0 and 2.0.
        return (exponent << 52) + (long) ((rest - 1.0) * 4503599627370496.0);
    }

    // ---- what a call requires

    private static void requireIndex(boolean so) {
        if (!so) {
            throw new IndexOutOfBoundsException("no such number");
        }
    }

    private static void requireArgument(boolean so) {
        if (!so) {
            throw new IllegalArgumentException("not a fitting argument");
        }
    }

    private static void requireState(boolean so) {
        if (!so) {
            throw new IllegalStateException("not possible now");
        }
    }

    private static boolean within(int value, int low, int high) {
        return value >= low && value <= high;
    }

    private static boolean isOwner(int owner) {
        return within(owner, 0, MOST_OWNERS - 1);
    }

    private static boolean isMilestone(int milestone) {
        return within(milestone, 0, MOST_MILESTONES - 1);
    }

    private static boolean isSlot(int slot) {
        return within(slot, 0, MOST_SLOTS - 1);
    }

    /** The set with one ticket alone; a set of tickets is an int with a bit for each of them. */
    private static int setOf(int ticket) {
        return 1 << ticket;
    }

    private static boolean isIn(int set, int ticket) {
        return (set & (1 << ticket)) != 0;
    }

    /** All that a snapshot holds: tickets, owners, milestones, the day, the accounts. */
    private static final class Board {
        int ticketCount;
        int today;
        int closingCount;
        int reopeningCount;
        final int[] states = new int[MOST_TICKETS];
        final int[] points = new int[MOST_TICKETS];
        final int[] priorities = new int[MOST_TICKETS];
        final int[] owners = new int[MOST_TICKETS];
        final int[] milestones = new int[MOST_TICKETS];
        final int[] openingDays = new int[MOST_TICKETS];
        final int[] closingDays = new int[MOST_TICKETS];
        final int[] progressDays = new int[MOST_TICKETS];
        final int[] putBackCounts = new int[MOST_TICKETS];
        /** For each ticket the set of those that it needs directly. */
        final int[] needSets = new int[MOST_TICKETS];
        final int[] capacities = new int[MOST_OWNERS];
        final int[] loads = new int[MOST_OWNERS];
        final int[] dates = new int[MOST_MILESTONES];

        Board() {
            for (int owner = 0; owner < MOST_OWNERS; owner++) {
                capacities[owner] = FIRST_CAPACITY;
            }
            for (int milestone = 0; milestone < MOST_MILESTONES; milestone++) {
                dates[milestone] = DAYS_BETWEEN_MILESTONES * (milestone + 1);
            }
        }

        void copyFrom(Board other) {
            ticketCount = other.ticketCount;
            today = other.today;
            closingCount = other.closingCount;
            reopeningCount = other.reopeningCount;
            copyRow(other.states, states);
            copyRow(other.points, points);
            copyRow(other.priorities, priorities);
            copyRow(other.owners, owners);
            copyRow(other.milestones, milestones);
            copyRow(other.openingDays, openingDays);
            copyRow(other.closingDays, closingDays);
            copyRow(other.progressDays, progressDays);
            copyRow(other.putBackCounts, putBackCounts);
            copyRow(other.needSets, needSets);
            copyRow(other.capacities, capacities);
            copyRow(other.loads, loads);
            copyRow(other.dates, dates);
        }

        private static void copyRow(int[] from, int[] to) {
            System.arraycopy(from, 0, to, 0, Math.min(from.length, to.length));
        }

        // What is asked of the board.

        boolean hasTicket(int ticket) {
            return ticket >= 0 && ticket < ticketCount;
        }

        boolean hasRoom() {
            return ticketCount < MOST_TICKETS;
        }

        boolean isUnfinished(int ticket) {
            return states[ticket] != CLOSED && states[ticket] != DROPPED;
        }

        private int setWhere(int[] row, int value) {
            int found = 0;
            for (int ticket = 0; ticket < ticketCount; ticket++) {
                if (row[ticket] == value) {
                    found |= setOf(ticket);
                }
            }
            return found;
        }

        int inState(int state) {
            return setWhere(states, state);
        }

        int ownedBy(int owner) {
            return setWhere(owners, owner);
        }

        int plannedFor(int milestone) {
            return setWhere(milestones, milestone);
        }

        int unfinishedSet() {
            int unfinished = 0;
            for (int ticket = 0; ticket < ticketCount; ticket++) {
                if (isUnfinished(ticket)) {
                    unfinished |= setOf(ticket);
                }
            }
            return unfinished;
        }

        int pointsOfSet(int set) {
            int sum = 0;
            for (int ticket = 0; ticket < ticketCount; ticket++) {
                if (isIn(set, ticket)) {
                    sum += points[ticket];
                }
            }
            return sum;
        }

        boolean needsDirectly(int ticket, int needed) {
            return isIn(needSets[ticket], needed);
        }

        int thoseThatNeed(int needed) {
            return thoseThatNeedAny(setOf(needed));
        }

        int thoseThatNeedAny(int set) {
            int found = 0;
            for (int ticket = 0; ticket < ticketCount; ticket++) {
                if ((needSets[ticket] & set) != 0) {
                    found |= setOf(ticket);
                }
            }
            return found;
        }

        int neededByAny(int set) {
            int found = 0;
            for (int ticket = 0; ticket < ticketCount; ticket++) {
                if (isIn(set, ticket)) {
                    found |= needSets[ticket];
                }
            }
            return found;
        }

        int blockerSet(int ticket) {
            return needSets[ticket] & unfinishedSet();
        }

        int blockedSet() {
            return thoseThatNeedAny(unfinishedSet());
        }

        /** All that a ticket needs, directly or by way of others; each step goes one need further. */
        int reachedFrom(int ticket) {
            int reached = needSets[ticket];
            int before = 0;
            for (int step = 0; step < MOST_TICKETS && reached != before; step++) {
                before = reached;
                reached |= neededByAny(reached);
            }
            return reached;
        }

        private boolean hasCapacity(int owner, int morePoints) {
            return owner == NONE || loads[owner] + morePoints <= capacities[owner];
        }

        boolean canHavePoints(int ticket, int newPoints) {
            return isUnfinished(ticket) && hasCapacity(owners[ticket], newPoints - points[ticket]);
        }

        boolean canNeed(int ticket, int needed) {
            return !needsDirectly(ticket, needed) && isUnfinished(ticket)
                    && !isIn(reachedFrom(needed), ticket);
        }

        boolean canBeGivenTo(int ticket, int owner) {
            return isUnfinished(ticket) && owners[ticket] != owner && hasCapacity(owner, points[ticket]);
        }

        boolean canPass(int days) {
            return today + days <= LAST_DAY;
        }

        boolean canStart(int ticket) {
            return states[ticket] == OPEN && owners[ticket] != NONE;
        }

        boolean canClose(int ticket) {
            return states[ticket] == IN_REVIEW && blockerSet(ticket) == 0;
        }

        boolean canReopen(int ticket) {
            return states[ticket] == CLOSED && (thoseThatNeed(ticket) & inState(CLOSED)) == 0
                    && hasCapacity(owners[ticket], points[ticket]);
        }

        // Changes; the caller has asked before whether they are possible.

        int addTicket(int newPoints, int newPriority) {
            int ticket = ticketCount;
            states[ticket] = OPEN;
            points[ticket] = newPoints;
            priorities[ticket] = newPriority;
            owners[ticket] = NONE;
            milestones[ticket] = NONE;
            openingDays[ticket] = today;
            closingDays[ticket] = NONE;
            progressDays[ticket] = 0;
            putBackCounts[ticket] = 0;
            needSets[ticket] = 0;
            ticketCount++;
            return ticket;
        }

        private void addLoad(int owner, int morePoints) {
            if (owner != NONE) {
                loads[owner] += morePoints;
            }
        }

        int setPoints(int ticket, int newPoints) {
            int before = points[ticket];
            addLoad(owners[ticket], newPoints - before);
            points[ticket] = newPoints;
            return before;
        }

        int setPriority(int ticket, int newPriority) {
            int before = priorities[ticket];
            priorities[ticket] = newPriority;
            return before;
        }

        int addNeed(int ticket, int needed) {
            needSets[ticket] |= setOf(needed);
            return Integer.bitCount(needSets[ticket]);
        }

        int removeNeed(int ticket, int needed) {
            needSets[ticket] &= ~setOf(needed);
            return Integer.bitCount(needSets[ticket]);
        }

        int giveTo(int ticket, int owner) {
            addLoad(owners[ticket], -points[ticket]);
            owners[ticket] = owner;
            addLoad(owner, points[ticket]);
            return loads[owner];
        }

        int takeFromOwner(int ticket) {
            int before = owners[ticket];
            addLoad(before, -points[ticket]);
            owners[ticket] = NONE;
            return before;
        }

        int setCapacity(int owner, int capacity) {
            int before = capacities[owner];
            capacities[owner] = capacity;
            return before;
        }

        int takeFromMilestone(int ticket) {
            int before = milestones[ticket];
            milestones[ticket] = NONE;
            return before;
        }

        int setDate(int milestone, int newDay) {
            int before = dates[milestone];
            dates[milestone] = newDay;
            return before;
        }

        int pass(int days) {
            today += days;
            for (int ticket = 0; ticket < ticketCount; ticket++) {
                if (states[ticket] == IN_PROGRESS) {
                    progressDays[ticket] += days;
                }
            }
            return today;
        }

        int putBack(int ticket) {
            states[ticket] = IN_PROGRESS;
            putBackCounts[ticket]++;
            return putBackCounts[ticket];
        }

        void finish(int ticket) {
            closingDays[ticket] = today;
            closingCount++;
            leaveOff(ticket, CLOSED);
        }

        void leaveOff(int ticket, int newState) {
            states[ticket] = newState;
            addLoad(owners[ticket], -points[ticket]);
        }

        void openAgain(int ticket) {
            states[ticket] = OPEN;
            addLoad(owners[ticket], points[ticket]);
            reopeningCount++;
        }
    }

    /** Chains of tickets, and the orders in which tickets can be done; the rows are used anew by each call. */
    private static final class Chains {
        private final int[] table = new int[MOST_TICKETS];
        private final int[] triedBests = new int[MOST_TICKETS];
        private final int[] orderedBests = new int[MOST_TICKETS];
        final int[] closingOrder = new int[MOST_TICKETS];

        int countByTable(Board board, int ticket) {
            int count = board.ticketCount;
            for (int from = 0; from < count; from++) {
                table[from] = board.needSets[from];
            }
            for (int between = 0; between < count; between++) {
                for (int from = 0; from < count; from++) {
                    if (isIn(table[from], between)) {
                        table[from] |= table[between];
                    }
                }
            }
            return Integer.bitCount(table[ticket]);
        }

        /** Goes from all ends of chains at once; without rings no chain is longer than there are tickets. */
        static int longestFrom(Board board, int ticket) {
            int ends = setOf(ticket);
            int length = 0;
            while (ends != 0 && length < MOST_TICKETS) {
                length++;
                ends = board.neededByAny(ends);
            }
            return length;
        }

        private static int countedPoints(Board board, int ticket) {
            return board.isUnfinished(ticket) ? board.points[ticket] : 0;
        }

        int mostPointsByTrying(Board board) {
            for (int ticket = 0; ticket < board.ticketCount; ticket++) {
                triedBests[ticket] = NONE;
            }
            int most = 0;
            for (int ticket = 0; ticket < board.ticketCount; ticket++) {
                most = Math.max(most, tryFrom(board, ticket, triedBests, 1));
            }
            return most;
        }

        /** What was tried once from a ticket is kept in bests: twenty tickets can have a million chains. */
        private static int tryFrom(Board board, int ticket, int[] bests, int depth) {
            if (bests[ticket] != NONE) {
                return bests[ticket];
            }
            int further = 0;
            for (int next = 0; next < board.ticketCount && depth < MOST_TICKETS; next++) {
                if (board.needsDirectly(ticket, next)) {
                    further = Math.max(further, tryFrom(board, next, bests, depth + 1));
                }
            }
            bests[ticket] = countedPoints(board, ticket) + further;
            return bests[ticket];
        }

        int mostPointsByOrder(Board board) {
            int most = 0;
            int placed = 0;
            for (int place = 0; place < board.ticketCount; place++) {
                int ticket = placeable(board, placed);
                if (ticket == NONE) {
                    return most;
                }
                orderedBests[ticket] = countedPoints(board, ticket) + bestNeeded(board, ticket);
                most = Math.max(most, orderedBests[ticket]);
                placed |= setOf(ticket);
            }
            return most;
        }

        private static int placeable(Board board, int placed) {
            for (int ticket = 0; ticket < board.ticketCount; ticket++) {
                if (!isIn(placed, ticket) && (board.needSets[ticket] & ~placed) == 0) {
                    return ticket;
                }
            }
            return NONE;
        }

        private int bestNeeded(Board board, int ticket) {
            int best = 0;
            for (int needed = 0; needed < board.ticketCount; needed++) {
                if (board.needsDirectly(ticket, needed)) {
                    best = Math.max(best, orderedBests[needed]);
                }
            }
            return best;
        }

        static int nextOpen(Board board) {
            return firstOf(board, board.inState(OPEN) & ~board.blockedSet());
        }

        /** Puts the unfinished tickets into the row in the order of closing; answers how many they are. */
        int fillClosingOrder(Board board) {
            int left = board.unfinishedSet();
            for (int place = 0; place < MOST_TICKETS; place++) {
                int ticket = firstOf(board, freeOf(board, left));
                if (ticket == NONE) {
                    return place;
                }
                closingOrder[place] = ticket;
                left &= ~setOf(ticket);
            }
            return MOST_TICKETS;
        }

        private static int freeOf(Board board, int left) {
            int free = 0;
            for (int ticket = 0; ticket < board.ticketCount; ticket++) {
                if (isIn(left, ticket) && (board.needSets[ticket] & left) == 0) {
                    free |= setOf(ticket);
                }
            }
            return free;
        }

        /** The first one to do of a set, NONE if it is empty. */
        private static int firstOf(Board board, int set) {
            int first = NONE;
            for (int ticket = 0; ticket < board.ticketCount; ticket++) {
                if (isIn(set, ticket) && (first == NONE || comesBefore(board, ticket, first))) {
                    first = ticket;
                }
            }
            return first;
        }

        private static boolean comesBefore(Board board, int ticket, int other) {
            if (board.priorities[ticket] != board.priorities[other]) {
                return board.priorities[ticket] > board.priorities[other];
            }
            return board.points[ticket] < board.points[other];
        }
    }

    /** Counts and points of owners, of milestones and of all tickets, told by going through them. */
    private static final class Sums {
        static int loadOf(Board board, int owner) {
            return board.pointsOfSet(board.ownedBy(owner) & board.unfinishedSet());
        }

        static int inProgressWith(Board board, int owner) {
            return Integer.bitCount(board.ownedBy(owner) & board.inState(IN_PROGRESS));
        }

        static int doneBy(Board board, int owner) {
            return board.pointsOfSet(board.ownedBy(owner) & board.inState(CLOSED));
        }

        static int ownerWithMostLeft(Board board) {
            int best = 0;
            for (int owner = 1; owner < MOST_OWNERS; owner++) {
                if (capacityLeft(board, owner) > capacityLeft(board, best)) {
                    best = owner;
                }
            }
            return best;
        }

        private static int capacityLeft(Board board, int owner) {
            return board.capacities[owner] - board.loads[owner];
        }

        static int leftFor(Board board, int milestone) {
            return board.pointsOfSet(board.plannedFor(milestone) & board.unfinishedSet());
        }

        static int doneFor(Board board, int milestone) {
            return board.pointsOfSet(board.plannedFor(milestone) & board.inState(CLOSED));
        }

        static int hundredthsFor(Board board, int milestone) {
            int done = doneFor(board, milestone);
            int all = done + leftFor(board, milestone);
            return all == 0 ? 100 : done * 100 / all;
        }

        static boolean isOverdue(Board board, int milestone) {
            return board.today > board.dates[milestone] && leftFor(board, milestone) > 0;
        }

        static int overdueMilestones(Board board) {
            int late = 0;
            for (int milestone = 0; milestone < MOST_MILESTONES; milestone++) {
                if (isOverdue(board, milestone)) {
                    late++;
                }
            }
            return late;
        }

        static int plannedTooEarly(Board board, int milestone) {
            int inTime = plannedBy(board, board.dates[milestone]);
            int tooLate = board.unfinishedSet() & ~inTime;
            int concerned = board.plannedFor(milestone) & board.unfinishedSet();
            return Integer.bitCount(board.thoseThatNeedAny(tooLate) & concerned);
        }

        private static int plannedBy(Board board, int date) {
            int planned = 0;
            for (int milestone = 0; milestone < MOST_MILESTONES; milestone++) {
                if (board.dates[milestone] <= date) {
                    planned |= board.plannedFor(milestone);
                }
            }
            return planned;
        }

        static int blockedAndUnfinished(Board board) {
            return Integer.bitCount(board.blockedSet() & board.unfinishedSet());
        }

        static int closedInWeek(Board board) {
            int sum = 0;
            for (int ticket = 0; ticket < board.ticketCount; ticket++) {
                if (board.states[ticket] == CLOSED
                        && board.closingDays[ticket] >= board.today - DAYS_AHEAD_IN_WEEK) {
                    sum += board.points[ticket];
                }
            }
            return sum;
        }

        static double meanProgress(Board board) {
            int closed = 0;
            int days = 0;
            for (int ticket = 0; ticket < board.ticketCount; ticket++) {
                if (board.states[ticket] == CLOSED) {
                    closed++;
                    days += board.progressDays[ticket];
                }
            }
            return closed == 0 ? 0.0 : (double) days / (double) closed;
        }
    }

    /** The saved states, the oldest one first in a ring, and the slots with their snapshots. */
    private static final class History {
        private final Board[] saved = new Board[MOST_SAVED];
        private int oldest;
        private int count;
        private final Board[] slots = new Board[MOST_SLOTS];
        private final boolean[] kept = new boolean[MOST_SLOTS];

        History() {
            for (int place = 0; place < MOST_SAVED; place++) {
                saved[place] = new Board();
            }
            for (int slot = 0; slot < MOST_SLOTS; slot++) {
                slots[slot] = new Board();
            }
        }

        int savedCount() {
            return count;
        }

        void save(Board board) {
            if (count == MOST_SAVED) {
                oldest = (oldest + 1) % MOST_SAVED;
                count--;
            }
            saved[(oldest + count) % MOST_SAVED].copyFrom(board);
            count++;
        }

        void restoreSaved(Board board) {
            count--;
            board.copyFrom(saved[(oldest + count) % MOST_SAVED]);
        }

        boolean hasKept(int slot) {
            return kept[slot];
        }

        void keepIn(int slot, Board board) {
            slots[slot].copyFrom(board);
            kept[slot] = true;
        }

        void restoreKept(int slot, Board board) {
            board.copyFrom(slots[slot]);
        }
    }

    /** The buffer, and the orders that the last reading found in it. */
    private static final class OrderText {
        private final char[] signs = new char[MOST_SIGNS];
        private int length;
        private int at;
        private final char[] kinds = new char[MOST_ORDERS];
        private final int[] firsts = new int[MOST_ORDERS];
        private final int[] seconds = new int[MOST_ORDERS];
        private int orderCount;

        boolean hasRoom() {
            return length < MOST_SIGNS;
        }

        int add(char sign) {
            signs[length] = sign;
            length++;
            return length;
        }

        int clear() {
            int before = length;
            length = 0;
            return before;
        }

        long mixedInto(long before) {
            long hash = mixed(before, length);
            for (int place = 0; place < length; place++) {
                hash = mixed(hash, signs[place]);
            }
            return hash;
        }

        /** The reading stops at the first sign that no text has there, or at the end. */
        int errorPlace() {
            tellsOrders();
            return at;
        }

        /** Reads the whole buffer; tells whether it is orders as a text. */
        boolean tellsOrders() {
            at = 0;
            orderCount = 0;
            boolean fits = readOrder();
            for (int order = 1; order <= MOST_ORDERS && fits && at < length; order++) {
                fits = readSign(';') && readOrder();
            }
            return fits && at == length;
        }

        private boolean readOrder() {
            if (at >= length) {
                return false;
            }
            char kind = signs[at];
            switch (kind) {
                case 'o':
                    return readOpening();
                case 'n':
                    return readPair('>', MOST_TICKETS - 1);
                case 'a':
                    return readPair('@', MOST_OWNERS - 1);
                case 's':
                case 'r':
                case 'c':
                    return readSingle(0, MOST_TICKETS - 1);
                case 'e':
                    return readSingle(1, MOST_DAYS_AT_ONCE);
                default:
                    return false;
            }
        }

        private boolean readOpening() {
            char kind = signs[at];
            at++;
            int points = readNumber(1, MOST_POINTS);
            if (points == NONE) {
                return false;
            }
            int priority = readSign('!') ? readNumber(0, MOST_PRIORITY) : PRIORITY_IF_LEFT_OUT;
            return priority != NONE && noteOrder(kind, points, priority);
        }

        private boolean readPair(char between, int high) {
            char kind = signs[at];
            at++;
            int ticket = readNumber(0, MOST_TICKETS - 1);
            if (ticket == NONE || !readSign(between)) {
                return false;
            }
            int other = readNumber(0, high);
            return other != NONE && noteOrder(kind, ticket, other);
        }

        private boolean readSingle(int low, int high) {
            char kind = signs[at];
            at++;
            int number = readNumber(low, high);
            return number != NONE && noteOrder(kind, number, NONE);
        }

        private boolean readSign(char sign) {
            if (at >= length || signs[at] != sign) {
                return false;
            }
            at++;
            return true;
        }

        /** Reads a number of one or two digits, NONE if none begins here; a digit that makes it too high is left. */
        private int readNumber(int low, int high) {
            int number = digitHere();
            if (number == NONE || number < low || number > high) {
                return NONE;
            }
            at++;
            int digit = digitHere();
            if (number == 0 || digit == NONE || number * 10 + digit > high) {
                return number;
            }
            at++;
            return number * 10 + digit;
        }

        private int digitHere() {
            if (at >= length || signs[at] < '0' || signs[at] > '9') {
                return NONE;
            }
            return signs[at] - '0';
        }

        private boolean noteOrder(char kind, int first, int second) {
            if (orderCount >= MOST_ORDERS) {
                return false;
            }
            kinds[orderCount] = kind;
            firsts[orderCount] = first;
            seconds[orderCount] = second;
            orderCount++;
            return true;
        }

        /** Follows the orders read last; answers the first one that is not possible, NONE if all are. */
        int followOn(Board board) {
            for (int order = 0; order < orderCount; order++) {
                if (!Follower.carryOut(board, kinds[order], firsts[order], seconds[order])) {
                    return order;
                }
            }
            return NONE;
        }
    }

    /** Carries out single orders; each call tells whether the order was possible, and does nothing if not. */
    private static final class Follower {
        static boolean carryOut(Board board, char kind, int first, int second) {
            switch (kind) {
                case 'o':
                    return openIfPossible(board, first, second);
                case 'n':
                    return needIfPossible(board, first, second);
                case 'a':
                    return giveIfPossible(board, first, second);
                case 's':
                    return startIfPossible(board, first);
                case 'r':
                    return submitIfPossible(board, first);
                case 'c':
                    return closeIfPossible(board, first);
                case 'e':
                    return passIfPossible(board, first);
                default:
                    return false;
            }
        }

        private static boolean openIfPossible(Board board, int points, int priority) {
            boolean possible = board.hasRoom();
            if (possible) {
                board.addTicket(points, priority);
            }
            return possible;
        }

        private static boolean needIfPossible(Board board, int ticket, int needed) {
            boolean possible = board.hasTicket(ticket) && board.hasTicket(needed)
                    && ticket != needed && board.canNeed(ticket, needed);
            if (possible) {
                board.addNeed(ticket, needed);
            }
            return possible;
        }

        private static boolean giveIfPossible(Board board, int ticket, int owner) {
            boolean possible = board.hasTicket(ticket) && isOwner(owner) && board.canBeGivenTo(ticket, owner);
            if (possible) {
                board.giveTo(ticket, owner);
            }
            return possible;
        }

        private static boolean startIfPossible(Board board, int ticket) {
            boolean possible = board.hasTicket(ticket) && board.canStart(ticket);
            if (possible) {
                board.states[ticket] = IN_PROGRESS;
            }
            return possible;
        }

        private static boolean submitIfPossible(Board board, int ticket) {
            boolean possible = board.hasTicket(ticket) && board.states[ticket] == IN_PROGRESS;
            if (possible) {
                board.states[ticket] = IN_REVIEW;
            }
            return possible;
        }

        private static boolean closeIfPossible(Board board, int ticket) {
            boolean possible = board.hasTicket(ticket) && board.canClose(ticket);
            if (possible) {
                board.finish(ticket);
            }
            return possible;
        }

        private static boolean passIfPossible(Board board, int days) {
            boolean possible = board.canPass(days);
            if (possible) {
                board.pass(days);
            }
            return possible;
        }
    }
}
