/** Promises 7 and 15: channels that are closed and opened, and power that fails. */
public final class OpenAndCutTest {
    private static final Check check = new Check("OpenAndCutTest");

    public static void main(String[] args) {
        whetherItWasOpen();
        whatItGatheredIsGone();
        openingAnOpenOneChangesNothing();
        whatItIsSendingBeginsAnew();
        whatIsAskedForBeginsAnew();
        cutTakesWhatIsGathered();
        cutSendsAnew();
        cutLeavesTheRest();
        wrongArguments();
        check.end();
    }

    private static RelayDesk desk() {
        RelayDesk desk = new RelayDesk();
        desk.route(Teleprinter.indicator("KILN"), 1, 1);
        return desk;
    }

    private static void whetherItWasOpen() {
        RelayDesk desk = desk();
        check.same("closing an open one", desk.open(4, false), true);
        check.same("closing a closed one", desk.open(4, false), false);
        check.same("opening a closed one", desk.open(4, true), false);
        check.same("opening an open one", desk.open(4, true), true);
        check.same("another one", desk.open(5, true), true);
    }

    private static void whatItGatheredIsGone() {
        RelayDesk desk = desk();
        Teleprinter.type(desk, 0, "001 1 KILN\nA1");
        Teleprinter.type(desk, 2, "001 1 KILN\n");
        desk.open(0, false);
        desk.open(0, true);
        for (int i = 0; i < 4; i++) {
            desk.sign(0, 13);
        }
        check.same("from LETTERS on, nothing before", desk.sign(0, 27), RelayDesk.CASE);
        check.same("no number", desk.reason(1), 1);
        check.same("another channel's is not gone", Teleprinter.type(desk, 2, "NNNN\n"), RelayDesk.TAKEN);
        Teleprinter.type(desk, 0, Teleprinter.times(70, "X") + "\nNNNN");
        desk.open(0, false);
        desk.open(0, true);
        check.same("the line is gone", desk.sign(0, 27), 0);
        Teleprinter.message(desk, 0, "");
        desk.cut();
        check.same("LONG is gone", Teleprinter.message(desk, 0, "001 1 KILN\n"), RelayDesk.TAKEN);
    }

    private static void openingAnOpenOneChangesNothing() {
        RelayDesk desk = desk();
        Teleprinter.message(desk, 0, "002 1 KILN\n");
        Teleprinter.type(desk, 0, "003 1 KILN\n");
        desk.open(0, true);
        check.same("what it gathered", Teleprinter.type(desk, 0, "NNNN\n"), RelayDesk.TAKEN);
        check.same("what it misses", desk.askFor(0), 1);
        Teleprinter.skip(desk, 1, 4);
        desk.open(1, true);
        check.same("what it is sending", desk.send(1), 26);
    }

    private static void whatItIsSendingBeginsAnew() {
        RelayDesk desk = desk();
        Teleprinter.message(desk, 0, "001 3 KILN\n");
        Teleprinter.skip(desk, 1, 9);
        Teleprinter.message(desk, 0, "002 1 KILN\n");
        desk.open(1, false);
        check.same("nothing is sent", desk.send(1), RelayDesk.NONE);
        check.same("it does not wait", desk.queued(1, 3), 0);
        check.same("the other one waits", desk.queued(1, 1), 1);
        desk.open(1, true);
        check.same("anew, under its number", Teleprinter.receive(desk, 1), "001 3 KILN\nNNNN\n");
        check.same("then the other one", Teleprinter.receive(desk, 1), "002 1 KILN\nNNNN\n");
        check.same("it was SENT as 1", desk.trace(1, 1), 1);
    }

    private static void whatIsAskedForBeginsAnew() {
        RelayDesk desk = desk();
        Teleprinter.message(desk, 0, "001 3 KILN\n");
        Teleprinter.receive(desk, 1);
        desk.rerun(1, 1);
        desk.rerun(1, 1);
        Teleprinter.skip(desk, 1, 9);
        desk.open(1, false);
        desk.open(1, true);
        check.same("anew", Teleprinter.receive(desk, 1), "001 R 3 KILN\nNNNN\n");
        Teleprinter.skip(desk, 1, 1);
        desk.cut();
        check.same("behind a cut", desk.send(1), 29);
        desk.cut();
        check.same("anew", Teleprinter.receive(desk, 1), "001 R 3 KILN\nNNNN\n");
        check.same("nothing more", desk.send(1), RelayDesk.NONE);
    }

    private static void cutTakesWhatIsGathered() {
        RelayDesk desk = desk();
        for (int channel = 0; channel < 8; channel++) {
            Teleprinter.type(desk, channel, "001 1 KILN\n1");
        }
        desk.cut();
        for (int channel = 0; channel < 8; channel++) {
            for (int i = 0; i < 4; i++) {
                desk.sign(channel, 13);
            }
            check.same("from LETTERS on, nothing before", desk.sign(channel, 27), RelayDesk.CASE);
            check.same("LAST", desk.receipt(channel), 999);
        }
    }

    private static void cutSendsAnew() {
        RelayDesk desk = desk();
        desk.route(Teleprinter.indicator("LOFT"), 2, 2);
        Teleprinter.message(desk, 0, "001 2 KILN LOFT\n");
        Teleprinter.skip(desk, 1, 3);
        Teleprinter.skip(desk, 2, 20);
        Teleprinter.message(desk, 0, "002 1 KILN LOFT\n");
        desk.cut();
        check.same("one channel", Teleprinter.receive(desk, 1), "001 2 KILN LOFT\nNNNN\n");
        check.same("the other", Teleprinter.receive(desk, 2), "001 2 KILN LOFT\nNNNN\n");
        desk.cut();
        check.same("what was SENT is not sent anew", Teleprinter.receive(desk, 1), "002 1 KILN LOFT\nNNNN\n");
    }

    private static void cutLeavesTheRest() {
        RelayDesk desk = desk();
        Teleprinter.message(desk, 0, "003 2 KILN\n");
        Teleprinter.message(desk, 0, "X\n");
        Teleprinter.clerk(desk, 1, "001 1");
        desk.open(6, false);
        desk.cut();
        check.same("LAST", desk.receipt(0), 3);
        check.same("MISSING", desk.askFor(0), 1);
        check.same("what waits", desk.queued(1, 2), 1);
        Teleprinter.clerk(desk, 1, " KILN");
        check.same("the clerk's text", desk.resubmit(1), 0);
        check.same("a closed channel", desk.open(6, true), false);
    }

    private static void wrongArguments() {
        RelayDesk desk = desk();
        for (int wrong : new int[] {-1, 8, Integer.MIN_VALUE, Integer.MAX_VALUE}) {
            check.refusesArgument("closing " + wrong, () -> desk.open(wrong, false));
            check.refusesArgument("opening " + wrong, () -> desk.open(wrong, true));
        }
        check.same("the last channel", desk.open(7, false), true);
    }
}
