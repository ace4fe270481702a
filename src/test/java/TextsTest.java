/** Promises 20 to 24: the buffer, its syntax errors, orders as texts. */
final class TextsTest extends Due {
    private static final String FULL = "o1;o2;o3;o4;o5;o6;o7;o8;o9;o1;o2;o3;o4;o5;o6;o7;o8;o9;o1;o2;";

    public static void main(String[] args) {
        promise20Append();
        promise21ClearBuffer();
        promise22FirstErrorOfWholeTexts();
        promise22FirstErrorOfBeginnings();
        promise22FirstErrorOfWrongTexts();
        promise22AllSigns();
        promise22TextOfAnyLength();
        promise22SignsOfEarlierTexts();
        promise23Follow();
        promise23FollowOpens();
        promise23NumbersOfTwoDigits();
        promise23FollowAllOrNothing();
        promise23FollowIsUndoneAsOne();
        promise23WholeBuffer();
        promise23SeventeenClosings();
        promise23FollowThatChangesNothing();
        promise23FirstAndLastNumbers();
        promise24ImpossibleOrder();
        promise24EachOrder();
        bufferThatTellsNoOrders();
        end("TextsTest");
    }

    private static void promise20Append() {
        TicketChains x = new TicketChains();
        due("append(33)", x.append(33), 1);
        due("append(126)", x.append(126), 2);
        dueArgument(x, "append(32)", () -> x.append(32));
        dueArgument(x, "append(127)", () -> x.append(127));
        dueArgument(x, "append(-1)", () -> x.append(-1));
        dueArgument(x, "append(65536 + 111)", () -> x.append(65536 + 111));
        for (int length = 3; length <= 60; length++) {
            due("append", x.append('o'), length);
        }
        dueState(x, "append to 60", () -> x.append('o'));
        dueArgument(x, "append a wrong one to 60", () -> x.append(32));
        due("savedStates", x.savedStates(), 0);
    }

    private static void promise21ClearBuffer() {
        TicketChains x = new TicketChains();
        due("clearBuffer of an empty one", x.clearBuffer(), 0);
        write(x, "o3;e");
        due("clearBuffer", x.clearBuffer(), 4);
        due("clearBuffer again", x.clearBuffer(), 0);
        due("append behind it", x.append('e'), 1);
        due("savedStates", x.savedStates(), 0);
    }

    private static void dueError(String text, int want) {
        TicketChains x = new TicketChains();
        write(x, text);
        long before = x.digest();
        due("firstError of " + text, x.firstError(), want);
        due("digest behind firstError of " + text, x.digest(), before);
    }

    private static void promise22FirstErrorOfWholeTexts() {
        String[] texts = {"o1", "o9", "o10", "o13", "o1!0", "o13!3", "n0>0", "n19>10", "a0@0", "a19@4",
            "s0", "s9", "s10", "s19", "r1", "c19", "e1", "e9", "e10", "e19", "e20", "e29", "e30",
            "o1;o2!3;n1>0;a0@1;s0;r0;c0;e30", FULL.substring(0, 59)};
        for (String text : texts) {
            dueError(text, text.length());
        }
    }

    private static void promise22FirstErrorOfBeginnings() {
        String[] texts = {"", "o", "o1!", "n", "n1", "n1>", "a", "a1", "a1@", "s", "r", "c", "e", "o1;", "s1;e3;", FULL};
        for (String text : texts) {
            dueError(text, text.length());
        }
    }

    private static void promise22FirstErrorOfWrongTexts() {
        String[] texts = {";", "x", "O1", "1", "o0", "o!", "o;", "o14", "o20", "o1!4", "o1!!", "o1!00", "o1!31", "o133",
            "n>", "n20", "n00", "n1<2", "n1@2", "n1>>", "n1>20", "n1>01", "n1;", "n190", "n1>190",
            "a>", "a20", "a1>", "a1@5", "a1@9", "a1@;", "a1@44", "a01",
            "s20", "s01", "s;", "s-1", "s1!", "s199", "r20", "c20", "c1c",
            "e0", "e31", "e40", "e300", "e!", "e01", "o1;;", "o1;o", "o1;x", "o1,o1", "e30;e31", "a1@4;o13!3;n19>20"};
        int[] errors = {0, 0, 0, 0, 1, 1, 1, 2, 2, 3, 3, 4, 4, 3,
            1, 2, 2, 2, 2, 3, 4, 4, 2, 3, 5,
            1, 2, 2, 3, 3, 3, 4, 2,
            2, 2, 1, 1, 2, 3, 2, 2, 2,
            1, 2, 2, 3, 1, 1, 3, 4, 3, 2, 6, 16};
        due("as many errors as texts", errors.length, texts.length);
        for (int i = 0; i < texts.length; i++) {
            dueError(texts[i], errors[i]);
        }
    }

    /** Behind each beginning only the signs named are no syntax errors. */
    private static void promise22AllSigns() {
        String[][] cases = {{"", "onasrce"}, {"o1;", "onasrce"}, {"o", "123456789"}, {"o1", "0123!;"}, {"o2", "!;"},
            {"o13", "!;"}, {"o1!", "0123"}, {"o1!0", ";"}, {"n", "0123456789"}, {"n0", ">"}, {"n1", "0123456789>"},
            {"n2", ">"}, {"n12", ">"}, {"n1>", "0123456789"}, {"n1>1", "0123456789;"}, {"n1>0", ";"},
            {"a", "0123456789"}, {"a1", "0123456789@"}, {"a3", "@"}, {"a3@", "01234"}, {"a3@1", ";"},
            {"s", "0123456789"}, {"s1", "0123456789;"}, {"r3", ";"}, {"c0", ";"}, {"c19", ";"},
            {"e", "123456789"}, {"e1", "0123456789;"}, {"e2", "0123456789;"}, {"e3", "0;"}, {"e4", ";"}, {"e30", ";"}};
        for (String[] each : cases) {
            for (char sign = 33; sign <= 126; sign++) {
                boolean fits = each[1].indexOf(sign) >= 0;
                dueError(each[0] + sign, each[0].length() + (fits ? 1 : 0));
            }
        }
    }

    private static void promise22TextOfAnyLength() {
        dueError(FULL, 60);
        dueError("s10;s10;s10;s10;s10;s10;s10;s10;s10;s10;s10;s10;s10;s10;s10;", 60);
        dueError("s10;s10;s10;s10;s10;s10;s10;s10;s10;s10;s10;s10;s10;s10;n10;", 59);
        dueError("s10;s10;s10;s10;s10;s10;s10;s10;s10;s10;s10;s10;s10;s10;n10>", 60);
        String first58 = "s10;".repeat(13) + "e1;e1;";
        String[] ends = {"o1", "o9", "n1", "a1", "s1", "r9", "c0", "e1", "e3"};
        for (String end : ends) {
            dueError(first58 + end, 60);
        }
        dueError(first58 + "o", 59);
        dueError(first58 + ";1", 58);
        dueError(first58 + "e0", 59);
        dueError("s10;".repeat(14) + "o1!3", 60);
        dueError("s10;".repeat(14) + "o1!4", 59);
    }

    /** The signs of a text that was cleared must not be read behind the end of a shorter one. */
    private static void promise22SignsOfEarlierTexts() {
        String[] before = {"o1!3", "o13;e1", "n1>2", "a1@3", "s12;s3", "e12", "e1;e2"};
        String[] after = {"o1", "o1", "n1", "a1", "s1", "e1", "e1;"};
        boolean[] whole = {true, true, false, false, true, true, false};
        for (int i = 0; i < before.length; i++) {
            TicketChains x = withTickets(1, 1, 1);
            write(x, before[i]);
            write(x, after[i]);
            due("firstError of " + after[i] + " behind " + before[i], x.firstError(), after[i].length());
            if (!whole[i]) {
                dueArgument(x, "follow of " + after[i] + " behind " + before[i], x::follow);
            }
        }
        TicketChains x = new TicketChains();
        write(x, "o1!3");
        write(x, "o1");
        x.follow();
        due("priorityOf(0)", x.priorityOf(0), 1);
    }

    private static void promise23Follow() {
        TicketChains x = withTickets(3, 5);
        x.endDays(1);
        write(x, "o4;n1>0;a0@1;s0;e2;r0;e3;c0;a1@1;s1;r1;c1;o2!3");
        due("follow", x.follow(), 2);
        due("tickets", x.tickets(), 4);
        due("pointsOf(2)", x.pointsOf(2), 4);
        due("priorityOf(2), left out", x.priorityOf(2), 1);
        due("priorityOf(3)", x.priorityOf(3), 3);
        due("openedOn(3)", x.openedOn(3), 6);
        due("closedOn(0)", x.closedOn(0), 6);
        due("daysInProgress(0)", x.daysInProgress(0), 2);
        due("needs(1,0)", x.needs(1, 0), true);
        due("ownerOf(1)", x.ownerOf(1), 1);
        due("closings", x.closings(), 2);
        due("day", x.day(), 6);
        due("the buffer is cleared", x.clearBuffer(), 0);
        due("savedStates", x.savedStates(), 4);
        write(x, "e1");
        due("follow without a closing", x.follow(), 0);
    }

    private static void promise23FollowOpens() {
        TicketChains x = new TicketChains();
        write(x, FULL.substring(0, 59));
        due("follow 20 orders", x.follow(), 0);
        due("tickets", x.tickets(), 20);
        due("pointsOf(19)", x.pointsOf(19), 2);
        due("savedStates", x.savedStates(), 1);
        write(x, "o1");
        dueState(x, "follow: the 21st ticket", x::follow);
    }

    private static void promise23NumbersOfTwoDigits() {
        TicketChains x = withTickets(1, 1, 1, 1, 1, 1, 1, 1, 1, 1, 1, 1, 1);
        write(x, "o12!2;o13;e29;n11>12;n3>14;a14@4;s14;e12;r14;c14");
        due("follow", x.follow(), 1);
        due("pointsOf(13)", x.pointsOf(13), 12);
        due("pointsOf(14)", x.pointsOf(14), 13);
        due("day", x.day(), 41);
        due("needs(11,12)", x.needs(11, 12), true);
        due("needs(3,14)", x.needs(3, 14), true);
        due("donePointsOf(4)", x.donePointsOf(4), 13);
        due("daysInProgress(14)", x.daysInProgress(14), 12);
    }

    private static void promise23FollowAllOrNothing() {
        TicketChains x = withTickets(3, 5);
        write(x, "a0@1;s0;r0;c0;c1");
        dueState(x, "follow up to the last order", x::follow);
        due("stateOf(0)", x.stateOf(0), 0);
        due("loadByAccount(1)", x.loadByAccount(1), 0);
        due("the buffer stays", x.clearBuffer(), 16);
        due("savedStates", x.savedStates(), 2);
    }

    private static void promise23FollowIsUndoneAsOne() {
        TicketChains x = withTickets(3, 5);
        String before = Reading.of(x);
        write(x, "a0@1;s0;r0;c0;e9;o1");
        x.follow();
        due("savedStates", x.savedStates(), 3);
        write(x, "e4");
        x.undo();
        dueText("undo of follow", Reading.of(x), before);
        due("savedStates behind it", x.savedStates(), 2);
        due("the buffer is not taken back", x.clearBuffer(), 2);
    }

    private static void dueImpossible(TicketChains x, String text, int want) {
        write(x, text);
        String before = Reading.of(x);
        long digest = x.digest();
        due("impossibleOrder of " + text, x.impossibleOrder(), want);
        dueText("impossibleOrder of " + text + " changes nothing", Reading.of(x), before);
        due("digest behind impossibleOrder of " + text, x.digest(), digest);
        dueState(x, "follow of " + text, x::follow);
    }

    private static void promise24ImpossibleOrder() {
        TicketChains x = withTickets(3, 5);
        dueImpossible(x, "s0", 0);
        dueImpossible(x, "a0@0;s0;s0;c5", 2);
        dueImpossible(x, "o1;o2;a3@0;a4@0", 3);
        write(x, "a0@0;s0");
        dueState(x, "impossibleOrder, all can be followed", x::impossibleOrder);
        due("the buffer stays", x.clearBuffer(), 7);
        due("stateOf(0)", x.stateOf(0), 0);
    }

    private static void promise24EachOrder() {
        TicketChains x = withTickets(13, 8, 2);
        dueImpossible(x, "n0>3", 0);
        dueImpossible(x, "n3>0", 0);
        dueImpossible(x, "n1>1", 0);
        dueImpossible(x, "n0>1;n0>1", 1);
        dueImpossible(x, "n0>1;n1>2;n2>0", 2);
        dueImpossible(x, "a3@0", 0);
        dueImpossible(x, "a0@0;a0@0", 1);
        dueImpossible(x, "a0@0;a1@0", 1);
        dueImpossible(x, "s3", 0);
        dueImpossible(x, "r3", 0);
        dueImpossible(x, "r0", 0);
        dueImpossible(x, "c3", 0);
        dueImpossible(x, "c0", 0);
        dueImpossible(x, "n0>1;a0@0;s0;r0;c0", 4);
        dueImpossible(x, "a0@0;s0;r0;c0;a0@1", 4);
        dueImpossible(x, "a0@0;s0;r0;c0;n0>1", 4);
        for (int i = 0; i < 33; i++) {
            x.endDays(30);
        }
        dueImpossible(x, "e9;e1", 1);
        dueImpossible(x, "e10", 0);
        TicketChains full = withTickets(1, 1, 1, 1, 1, 1, 1, 1, 1, 1, 1, 1, 1, 1, 1, 1, 1, 1, 1);
        dueImpossible(full, "o1;o1", 1);
    }

    private static void bufferThatTellsNoOrders() {
        TicketChains x = withTickets(3, 5);
        String[] texts = {"", "o", "o1!", "o1;", "n1", "n1>", "a1@", "s", "x", "o14", "s0;x", "a0@0;;", "o1;e31", FULL};
        for (String text : texts) {
            write(x, text);
            dueArgument(x, "follow of " + text, x::follow);
            dueArgument(x, "impossibleOrder of " + text, x::impossibleOrder);
            due("the buffer stays: " + text, x.clearBuffer(), text.length());
        }
    }

    private static void promise23WholeBuffer() {
        String whole = "e1;".repeat(19) + "e30";
        TicketChains x = new TicketChains();
        write(x, whole);
        due("firstError of 60 characters", x.firstError(), 60);
        dueState(x, "append to the whole buffer", () -> x.append(';'));
        dueState(x, "impossibleOrder of 60 characters", x::impossibleOrder);
        due("follow of 60 characters", x.follow(), 0);
        due("day", x.day(), 49);
        due("append behind follow", x.append('e'), 1);
        endDaysTo(x, 951);
        dueImpossible(x, whole, 19);
        endDaysTo(x, 980);
        dueImpossible(x, whole, 19);
        endDaysTo(x, 981);
        dueImpossible(x, whole, 18);
        endDaysTo(x, 999);
        dueImpossible(x, whole, 0);
        TicketChains full = withTickets(1);
        dueImpossible(full, FULL.substring(0, 59), 19);
    }

    private static void promise23SeventeenClosings() {
        TicketChains x = withTwenty(1);
        for (int ticket = 0; ticket < 20; ticket++) {
            toReview(x, ticket, 0);
        }
        write(x, "c0;c1;c2;c3;c4;c5;c6;c7;c8;c9;c10;c11;c12;c13;c14;c15;c16");
        due("follow with 17 closings", x.follow(), 17);
        due("closings", x.closings(), 17);
        due("withState(3)", x.withState(3), 17);
        write(x, "c17;c18;c19");
        due("follow with 3 closings", x.follow(), 3);
        due("closings", x.closings(), 20);
    }

    private static void promise23FollowThatChangesNothing() {
        TicketChains x = withTickets(3);
        x.assign(0, 0);
        String before = Reading.of(x);
        write(x, "a0@1;a0@0");
        due("follow there and back", x.follow(), 0);
        dueText("nothing is changed", Reading.of(x), before);
        due("a state is saved all the same", x.savedStates(), 3);
        due("the buffer is cleared all the same", x.clearBuffer(), 0);
        for (int step = 4; step <= 8; step++) {
            write(x, "e1");
            x.follow();
            due("savedStates", x.savedStates(), Math.min(step, 6));
        }
        for (int step = 5; step >= 0; step--) {
            x.undo();
            due("savedStates", x.savedStates(), step);
        }
        dueText("the oldest state that is left", Reading.of(x), before);
    }

    private static void promise23FirstAndLastNumbers() {
        TicketChains x = withTickets(1, 1, 1, 1, 1, 1, 1, 1, 1, 1, 1, 1, 1, 1, 1, 1, 1, 1);
        write(x, "o1!0;o13!3;n0>19;n19>18;a0@0;a18@4;e1;s18;e30;r18;c18");
        due("follow", x.follow(), 1);
        due("pointsOf(18)", x.pointsOf(18), 1);
        due("priorityOf(18)", x.priorityOf(18), 0);
        due("pointsOf(19)", x.pointsOf(19), 13);
        due("priorityOf(19)", x.priorityOf(19), 3);
        due("needs(0,19)", x.needs(0, 19), true);
        due("needs(19,18)", x.needs(19, 18), true);
        due("ownerOf(0)", x.ownerOf(0), 0);
        due("ownerOf(18)", x.ownerOf(18), 4);
        due("daysInProgress(18)", x.daysInProgress(18), 30);
        due("closedOn(18)", x.closedOn(18), 31);
        write(x, "a19@4;s19;r19;c19;s0;r0;c0");
        due("follow the first and the last ticket", x.follow(), 2);
        due("donePointsOf(4)", x.donePointsOf(4), 14);
    }
}
