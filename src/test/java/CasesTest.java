/** Promises 12, 13, 14 and 16: cases, the clerk's text, handing in again, and counting. */
public final class CasesTest {
    private static final int KILN = Teleprinter.indicator("KILN");
    private static final Check check = new Check("CasesTest");

    public static void main(String[] args) {
        reasons();
        atMostSixCases();
        clerksCharacters();
        clerksTextHasSixty();
        resubmitted();
        resubmittedWithFaults();
        resubmittedWithoutRoute();
        textIsEmptyBehindEveryTry();
        bodyWithoutLineEnd();
        noEndInTheClerksText();
        closedCases();
        tenMessages();
        counts();
        check.end();
    }

    /** A desk with a route for KILN to channel 1 and so many cases of the fault NUMBER. */
    private static RelayDesk desk(int cases) {
        RelayDesk desk = new RelayDesk();
        desk.route(KILN, 1, 1);
        for (int i = 0; i < cases; i++) {
            Teleprinter.message(desk, 0, "");
        }
        return desk;
    }

    private static int handIn(RelayDesk desk, int which, String text) {
        Teleprinter.clerk(desk, which, text);
        return desk.resubmit(which);
    }

    private static void reasons() {
        RelayDesk desk = desk(0);
        Teleprinter.message(desk, 0, "X\n");
        Teleprinter.message(desk, 0, "001 1 KILN\n" + Teleprinter.times(60, "X") + "\n");
        Teleprinter.message(desk, 0, "002 KILN\n");
        Teleprinter.message(desk, 0, "003 1\n");
        Teleprinter.message(desk, 0, "004 1 GONE\n");
        for (int which = 1; which <= 5; which++) {
            check.same("the reason", desk.reason(which), which);
        }
        for (int wrong : new int[] {0, -1, 6, Integer.MIN_VALUE, Integer.MAX_VALUE}) {
            check.refusesArgument("the case " + wrong, () -> desk.reason(wrong));
            check.refusesArgument("clerk on " + wrong, () -> desk.clerk(wrong, 'A'));
            check.refusesArgument("resubmit " + wrong, () -> desk.resubmit(wrong));
        }
        check.refusesArgument("no case at first", () -> new RelayDesk().reason(1));
    }

    private static void atMostSixCases() {
        RelayDesk desk = desk(6);
        check.same("the seventh", Teleprinter.message(desk, 0, ""), RelayDesk.CASE);
        check.same("it is lost", desk.count(1), 6);
        check.refusesArgument("no seventh", () -> desk.reason(7));
        check.same("closes one", handIn(desk, 1, "001 1 KILN"), 0);
        check.same("closed ones count, too", Teleprinter.message(desk, 0, ""), RelayDesk.CASE);
        check.same("lost as well", desk.count(1), 6);
        check.same("a message without route", Teleprinter.message(desk, 0, "001 1 GONE\n"), RelayDesk.TAKEN);
        check.same("its case is lost", desk.count(1), 6);
        check.same("the message is there", desk.count(0), 2);
    }

    private static void clerksCharacters() {
        RelayDesk desk = desk(1);
        String characters = "ABCDEFGHIJKLMNOPQRSTUVWXYZ0123456789.,-/()?:'+= \n";
        for (char c = 0; c < 400; c++) {
            char it = c;
            if (characters.indexOf(c) >= 0) {
                check.takes("character " + (int) c, () -> desk.clerk(1, it));
                desk.resubmit(1);
            } else {
                check.refusesArgument("character " + (int) c, () -> desk.clerk(1, it));
            }
        }
        for (char c : new char[] {'\uffff', '\u0130', '\u4e00'}) {
            check.refusesArgument("character " + (int) c, () -> desk.clerk(1, c));
        }
    }

    private static void clerksTextHasSixty() {
        RelayDesk desk = desk(1);
        String text = "001 1 KILN\n" + Teleprinter.times(49, "X");
        Teleprinter.clerk(desk, 1, text);
        check.refusesState("the 61st", () -> desk.clerk(1, 'X'));
        check.refusesArgument("the 61st, none of the CHARACTERS", () -> desk.clerk(1, 'x'));
        check.same("sixty are not LONG", desk.resubmit(1), 0);
        check.same("all of it is sent", Teleprinter.receive(desk, 1), text + "\nNNNN\n");
        RelayDesk other = desk(1);
        String header = Teleprinter.times(33, " ") + "001 R 1 KILN KILN KILN KILN";
        check.same("sixty with the header alone", handIn(other, 1, header), 0);
        check.same("as it is sent", Teleprinter.receive(other, 1), "001 1 KILN KILN KILN KILN\nNNNN\n");
    }

    private static void resubmitted() {
        RelayDesk desk = desk(2);
        check.same("sound", handIn(desk, 2, "777 R 3 KILN\nX\n"), 0);
        check.same("a message", desk.count(0), 1);
        check.same("it waits", desk.queued(1, 3), 1);
        check.same("the case is closed", desk.reason(2), 0);
        check.same("the other one is not", desk.reason(1), 1);
        check.same("its number means nothing", desk.receipt(0), 999);
        check.same("on its way", Teleprinter.receive(desk, 1), "001 3 KILN\nX\nNNNN\n");
        check.same("the same number again", handIn(desk, 1, "777 3 KILN"), 0);
        check.same("messages are numbered on", desk.trace(2, 1), RelayDesk.NONE);
    }

    private static void resubmittedWithFaults() {
        RelayDesk desk = desk(1);
        String[] faulty = {"1", "", "1", "000 1 KILN", "1", "1 KILN", "1", "\n001 1 KILN", "3", "001", "3", "001 R", "3", "001 5 KILN",
            "4", "001 1", "4", "001 1 KIL", "4", "001 1\nKILN", "4", "001 1 KILN KILN KILN KILN KILN"};
        for (int i = 0; i < faulty.length; i += 2) {
            int fault = Integer.parseInt(faulty[i]);
            check.same("the fault of " + faulty[i + 1], handIn(desk, 1, faulty[i + 1]), fault);
            check.same("is the reason then", desk.reason(1), fault);
            check.same("no message", desk.count(0), 0);
            check.same("the case is not closed", desk.count(2), 1);
        }
        check.same("no case more", desk.count(1), 1);
    }

    private static void resubmittedWithoutRoute() {
        RelayDesk desk = desk(1);
        check.same("one of two", handIn(desk, 1, "001 1 KILN GONE"), 5);
        check.same("it goes nowhere", desk.queued(1, 1), 0);
        check.same("no message", desk.count(0), 0);
        check.same("the reason", desk.reason(1), 5);
        check.same("no case more", desk.count(1), 1);
        desk.group(Teleprinter.indicator("TEAM"), Teleprinter.indicator("GONE"));
        check.same("in a group", handIn(desk, 1, "001 1 TEAM"), 5);
        desk.route(Teleprinter.indicator("GONE"), 2, 2);
        check.same("it has a route now", handIn(desk, 1, "001 1 KILN TEAM"), 0);
        check.same("here", desk.queued(1, 1), 1);
        check.same("and there", desk.queued(2, 1), 1);
    }

    private static void textIsEmptyBehindEveryTry() {
        RelayDesk desk = desk(1);
        handIn(desk, 1, "001 1 GONE");
        check.same("behind ROUTE", handIn(desk, 1, " R"), 1);
        handIn(desk, 1, "001");
        check.same("behind a fault", handIn(desk, 1, " 1 KILN"), 1);
        Teleprinter.clerk(desk, 1, Teleprinter.times(60, "X"));
        desk.resubmit(1);
        check.takes("sixty more", () -> Teleprinter.clerk(desk, 1, Teleprinter.times(60, "X")));
    }

    private static void bodyWithoutLineEnd() {
        RelayDesk desk = desk(4);
        handIn(desk, 1, "001 1 KILN");
        handIn(desk, 2, "001 1 KILN\n");
        handIn(desk, 3, "001 1 KILN\nA\nB");
        handIn(desk, 4, "001 1 KILN\nA\nB\n");
        check.same("no LINE END", Teleprinter.receive(desk, 1), "001 1 KILN\nNNNN\n");
        check.same("no body", Teleprinter.receive(desk, 1), "002 1 KILN\nNNNN\n");
        check.same("a LINE END is put behind the body", Teleprinter.receive(desk, 1), "003 1 KILN\nA\nB\nNNNN\n");
        check.same("it ends with one", Teleprinter.receive(desk, 1), "004 1 KILN\nA\nB\nNNNN\n");
    }

    private static void noEndInTheClerksText() {
        RelayDesk desk = desk(1);
        check.same("NNNN is text", handIn(desk, 1, "001 1 KILN\nNNNN\nA"), 0);
        check.same("up to it", Teleprinter.receive(desk, 1), "001 1 KILN\nNNNN\n");
        check.same("and the rest", Teleprinter.receive(desk, 1), "A\nNNNN\n");
        check.same("it was one message", desk.send(1), RelayDesk.NONE);
    }

    private static void closedCases() {
        RelayDesk desk = desk(1);
        handIn(desk, 1, "001 1 KILN");
        check.refusesState("clerk", () -> desk.clerk(1, 'A'));
        check.refusesState("resubmit", () -> desk.resubmit(1));
        check.refusesArgument("none of the CHARACTERS", () -> desk.clerk(1, 'a'));
        check.same("it stays closed", desk.reason(1), 0);
    }

    private static void tenMessages() {
        RelayDesk desk = desk(2);
        for (int i = 1; i <= 9; i++) {
            Teleprinter.message(desk, 0, "00" + i + " 1 KILN\n");
        }
        Teleprinter.clerk(desk, 2, "001 4 KILN");
        check.same("the tenth", handIn(desk, 1, "001 4 KILN"), 0);
        check.refusesState("the eleventh", () -> desk.resubmit(2));
        check.same("its reason is as before", desk.reason(2), 1);
        check.takes("its text is as before", () -> Teleprinter.clerk(desk, 2, Teleprinter.times(50, "X")));
        check.refusesState("its text is as before", () -> desk.clerk(2, 'X'));
        check.refusesArgument("no such case", () -> desk.resubmit(3));
    }

    private static void counts() {
        RelayDesk desk = desk(3);
        Teleprinter.message(desk, 0, "001 1 KILN\n");
        Teleprinter.message(desk, 0, "002 1 GONE\n");
        check.same("messages", desk.count(0), 2);
        check.same("cases that were made", desk.count(1), 4);
        check.same("cases that are not closed", desk.count(2), 4);
        handIn(desk, 2, "001 1 KILN");
        check.same("messages", desk.count(0), 3);
        check.same("cases that were made", desk.count(1), 4);
        check.same("cases that are not closed", desk.count(2), 3);
        Teleprinter.receive(desk, 1);
        check.same("those that were SENT count, too", desk.count(0), 3);
        for (int other : new int[] {-1, 3, Integer.MIN_VALUE, Integer.MAX_VALUE}) {
            check.same("count " + other, desk.count(other), RelayDesk.NONE);
        }
    }
}
