/** Promises 8 to 11: sending, asking again, what waits, and what became of a message. */
public final class SendTest {
    private static final int KILN = Teleprinter.indicator("KILN");
    private static final int LOFT = Teleprinter.indicator("LOFT");
    private static final Check check = new Check("SendTest");

    public static void main(String[] args) {
        shiftsOnlyWhereNeeded();
        byPrecedenceThenNumber();
        noEntryOvertakesTheOneBeingSent();
        numbersOfEachChannel();
        traceAndQueued();
        rerunIsSentFirst();
        rerunWhileItWaitsOrIsSent();
        onlyTheLatestThree();
        atMostThreeWaiting();
        askedForOutlivesTheLatestThree();
        rerunOnAClosedChannel();
        wrongArguments();
        check.end();
    }

    private static RelayDesk desk() {
        RelayDesk desk = new RelayDesk();
        desk.route(KILN, 1, 2);
        desk.route(LOFT, 3, 3);
        return desk;
    }

    private static void come(RelayDesk desk, String precedences) {
        for (char precedence : precedences.toCharArray()) {
            int number = desk.receipt(0) % 999 + 1;
            Teleprinter.message(desk, 0, String.format("%03d %c KILN\n", number, precedence));
        }
    }

    private static String go(RelayDesk desk) {
        return Teleprinter.receive(desk, 1);
    }

    private static void shiftsOnlyWhereNeeded() {
        RelayDesk desk = desk();
        Teleprinter.message(desk, 0, "001 2 KILN LOFT\nA 1\n2 B\n");
        int[] due = {29, 0, 0, 1, 26, 2, 26, 28, 10, 8, 11, 13, 26, 11, 14, 5, 19, 27,
            0, 26, 29, 1, 27, 2, 26, 28, 1, 27, 13, 13, 13, 13, 27, -1, -1};
        for (int i = 0; i < due.length; i++) {
            check.same("sign " + i, desk.send(1), due[i]);
        }
        desk.rerun(1, 1);
        int[] again = {29, 0, 0, 1, 26, 28, 17, 26, 29, 2, 26, 28, 10};
        for (int i = 0; i < again.length; i++) {
            check.same("sign " + i + ", again", desk.send(1), again[i]);
        }
    }

    private static void byPrecedenceThenNumber() {
        RelayDesk desk = desk();
        come(desk, "342214");
        String[] due = {"001 1", "002 2", "003 2", "004 3", "005 4", "006 4"};
        int[] messages = {5, 3, 4, 1, 2, 6};
        for (int i = 0; i < due.length; i++) {
            check.same("in turn", go(desk), due[i] + " KILN\nNNNN\n");
            check.same("which message it was", desk.trace(messages[i], 1), i + 1);
        }
        check.same("nothing more", go(desk), "");
    }

    private static void noEntryOvertakesTheOneBeingSent() {
        RelayDesk desk = desk();
        come(desk, "44");
        desk.send(1);
        come(desk, "1");
        check.same("all but the shift", Teleprinter.receive(desk, 1).length(), "001 4 KILN\nNNNN\n".length());
        check.same("it was the first", desk.trace(1, 1), 1);
        check.same("then the urgent one", go(desk), "002 1 KILN\nNNNN\n");
        come(desk, "3");
        check.same("chosen when its turn comes", go(desk), "003 3 KILN\nNNNN\n");
        check.same("the last", go(desk), "004 4 KILN\nNNNN\n");
    }

    private static void numbersOfEachChannel() {
        RelayDesk desk = desk();
        come(desk, "1");
        go(desk);
        Teleprinter.message(desk, 5, "001 1 LOFT KILN\n");
        check.same("a channel's own number", Teleprinter.receive(desk, 3), "001 1 LOFT KILN\nNNNN\n");
        check.same("another channel's number", go(desk), "002 1 LOFT KILN\nNNNN\n");
        check.same("the number on the one", desk.trace(2, 3), 1);
        check.same("the number on the other", desk.trace(2, 1), 2);
        check.same("nothing comes back in", desk.receipt(3), 999);
    }

    private static void traceAndQueued() {
        RelayDesk desk = desk();
        come(desk, "22");
        check.same("both wait", desk.queued(1, 2), 2);
        check.same("none of another precedence", desk.queued(1, 1), 0);
        check.same("none on another channel", desk.queued(3, 2), 0);
        check.same("it waits", desk.trace(1, 1), RelayDesk.NONE);
        check.same("it was not routed there", desk.trace(1, 2), 0);
        desk.send(1);
        check.same("one is being sent", desk.queued(1, 2), 1);
        check.same("it is being sent", desk.trace(1, 1), RelayDesk.NONE);
        int rest = Teleprinter.signsOf("001 2 KILN\nNNNN\n").length - 2;
        Teleprinter.skip(desk, 1, rest);
        check.same("all but the last sign", desk.trace(1, 1), RelayDesk.NONE);
        check.same("it may not be asked for yet", desk.rerun(1, 1), false);
        check.same("the last sign", desk.send(1), 27);
        check.same("it was SENT", desk.trace(1, 1), 1);
        check.same("the other one waits still", desk.queued(1, 2), 1);
        desk.rerun(1, 1);
        desk.send(1);
        check.same("what is asked for is no ENTRY", desk.queued(1, 2), 1);
        check.same("it was SENT before", desk.trace(1, 1), 1);
    }

    private static void rerunIsSentFirst() {
        RelayDesk desk = desk();
        come(desk, "411");
        go(desk);
        go(desk);
        check.same("002", desk.rerun(1, 2), true);
        check.same("001", desk.rerun(1, 1), true);
        check.same("in the order of asking", go(desk), "002 R 1 KILN\nNNNN\n");
        check.same("the next", go(desk), "001 R 1 KILN\nNNNN\n");
        check.same("then the ENTRY, with the next number", go(desk), "003 4 KILN\nNNNN\n");
        check.same("its number on the other side", desk.trace(1, 1), 3);
        check.same("another channel", desk.rerun(3, 1), false);
        check.same("a number that was not sent", desk.rerun(1, 4), false);
    }

    private static void rerunWhileItWaitsOrIsSent() {
        RelayDesk desk = desk();
        come(desk, "1");
        go(desk);
        check.same("once", desk.rerun(1, 1), true);
        check.same("again while it waits", desk.rerun(1, 1), true);
        desk.send(1);
        check.same("again while it is being sent", desk.rerun(1, 1), true);
        Teleprinter.receive(desk, 1);
        check.same("the second", go(desk), "001 R 1 KILN\nNNNN\n");
        check.same("the third", go(desk), "001 R 1 KILN\nNNNN\n");
        check.same("no more", go(desk), "");
        check.same("again behind that", desk.rerun(1, 1), true);
    }

    private static void onlyTheLatestThree() {
        RelayDesk desk = desk();
        come(desk, "1111");
        go(desk);
        go(desk);
        go(desk);
        check.same("the first of three", desk.rerun(1, 1), true);
        check.same("is sent again", go(desk), "001 R 1 KILN\nNNNN\n");
        go(desk);
        check.same("a fourth was SENT", desk.rerun(1, 1), false);
        check.same("the second", desk.rerun(1, 2), true);
        check.same("the third", desk.rerun(1, 3), true);
        check.same("the fourth", desk.rerun(1, 4), true);
        check.same("in this order", go(desk) + go(desk) + go(desk),
            "002 R 1 KILN\nNNNN\n003 R 1 KILN\nNNNN\n004 R 1 KILN\nNNNN\n");
    }

    private static void atMostThreeWaiting() {
        RelayDesk desk = desk();
        come(desk, "1");
        go(desk);
        for (int i = 0; i < 3; i++) {
            desk.rerun(1, 1);
        }
        check.refusesState("a fourth", () -> desk.rerun(1, 1));
        check.refusesState("asked before whether it may be", () -> desk.rerun(1, 700));
        check.refusesArgument("but behind the arguments", () -> desk.rerun(1, 0));
        check.same("another channel", desk.rerun(2, 1), false);
        desk.send(1);
        check.same("the one being sent waits no more", desk.rerun(1, 1), true);
        check.refusesState("three wait again", () -> desk.rerun(1, 1));
        Teleprinter.receive(desk, 1);
        check.refusesState("three wait still", () -> desk.rerun(1, 1));
        check.same("three and no more", go(desk).length() + go(desk).length() + go(desk).length(), 54);
        check.same("nothing behind them", desk.send(1), RelayDesk.NONE);
    }

    private static void askedForOutlivesTheLatestThree() {
        RelayDesk desk = desk();
        come(desk, "1111");
        go(desk);
        go(desk);
        go(desk);
        desk.send(1);
        check.same("asked for while the fourth is being sent", desk.rerun(1, 1), true);
        Teleprinter.receive(desk, 1);
        check.same("it may not be asked for again", desk.rerun(1, 1), false);
        check.same("but what was asked for is sent", go(desk), "001 R 1 KILN\nNNNN\n");
    }

    private static void rerunOnAClosedChannel() {
        RelayDesk desk = desk();
        come(desk, "1");
        go(desk);
        desk.open(1, false);
        check.same("closed", desk.rerun(1, 1), true);
        check.same("nothing is sent", desk.send(1), RelayDesk.NONE);
        desk.open(1, true);
        check.same("it waited", go(desk), "001 R 1 KILN\nNNNN\n");
    }

    private static void wrongArguments() {
        RelayDesk desk = desk();
        come(desk, "1");
        for (int wrong : new int[] {-1, 8, Integer.MIN_VALUE, Integer.MAX_VALUE}) {
            check.refusesArgument("send " + wrong, () -> desk.send(wrong));
            check.refusesArgument("rerun " + wrong, () -> desk.rerun(wrong, 1));
            check.refusesArgument("queued " + wrong, () -> desk.queued(wrong, 1));
            check.refusesArgument("trace on " + wrong, () -> desk.trace(1, wrong));
        }
        for (int wrong : new int[] {0, -1, 1000, Integer.MIN_VALUE, Integer.MAX_VALUE}) {
            check.refusesArgument("number " + wrong, () -> desk.rerun(1, wrong));
            check.refusesArgument("precedence " + wrong, () -> desk.queued(1, wrong));
            check.refusesArgument("message " + wrong, () -> desk.trace(wrong, 1));
        }
        check.refusesArgument("precedence 5", () -> desk.queued(1, 5));
        check.refusesArgument("a message that is not there yet", () -> desk.trace(2, 1));
        check.same("the last number", desk.rerun(7, 999), false);
        check.same("the last precedence", desk.queued(7, 4), 0);
        check.same("the last channel", desk.trace(1, 7), 0);
    }
}
