/** Boundaries of CASES, the clerk's text and the counts (promises 12, 13, 14 and 16): a method for each sentence. */
public final class CaseBoundsTest {
    private static final Check check = new Check("CaseBoundsTest");

    public static void main(String[] args) {
        numberedFromOneOn();
        atMostSix();
        closedOnesAmongThem();
        moreAreLostButAnsweredCase();
        lostCasesTakeTheirNumbers();
        lostCaseOfARoute();
        reasonOfEachFault();
        reasonIsZeroWhenClosed();
        textsOfTheirOwn();
        textOfSixty();
        sixtyBehindEachTry();
        handedInWithoutEnd();
        numberMustBeOneAndMeansNothing();
        faultIsTheReasonThen();
        routeIsTheReasonThen();
        textIsEmptyThen();
        tenthMessageByAClerk();
        resubmittedIsRouted();
        countOfMessages();
        countOfCases();
        noneForAnotherWhat();
        check.end();
    }

    private static RelayDesk desk(int cases) {
        RelayDesk desk = new RelayDesk();
        Desks.route(desk);
        Desks.makeCases(desk, cases);
        return desk;
    }

    private static int handIn(RelayDesk desk, int which, String text) {
        Teleprinter.clerk(desk, which, text);
        return desk.resubmit(which);
    }

    private static void counts(String what, RelayDesk desk, int messages, int made, int notClosed) {
        check.same(what + ": messages", desk.count(0), messages);
        check.same(what + ": cases made", desk.count(1), made);
        check.same(what + ": cases not closed", desk.count(2), notClosed);
    }

    /** "CASES wait for a clerk, numbered from 1 on". */
    private static void numberedFromOneOn() {
        for (int cases = 0; cases <= 6; cases++) {
            RelayDesk desk = desk(cases);
            for (int i = 0; i <= 7; i++) {
                int which = i;
                String due = which >= 1 && which <= cases ? "nothing" : "IllegalArgumentException";
                check.same("reason " + which + " of " + cases, Check.thrownBy(() -> desk.reason(which)), due);
                check.same("clerk " + which + " of " + cases, Check.thrownBy(() -> desk.clerk(which, 'A')), due);
                check.same("resubmit " + which + " of " + cases, Check.thrownBy(() -> desk.resubmit(which)), due);
            }
        }
    }

    /** "at most 6 of them in all". */
    private static void atMostSix() {
        for (int cases = 5; cases <= 8; cases++) {
            counts(cases + " cases", desk(cases), 0, Math.min(6, cases), Math.min(6, cases));
        }
    }

    /** "closed ones among them". */
    private static void closedOnesAmongThem() {
        RelayDesk desk = desk(6);
        for (int which = 1; which <= 6; which++) {
            check.same("closes", handIn(desk, which, "001 1 KILN"), 0);
            check.same("another fault", Teleprinter.message(desk, 0, ""), RelayDesk.CASE);
            counts(which + " closed", desk, which, 6, 6 - which);
            check.refusesArgument("no seventh", () -> desk.reason(7));
        }
        RelayDesk five = desk(5);
        handIn(five, 1, "001 1 KILN");
        Desks.makeCases(five, 1);
        check.same("the sixth, with a closed one", five.reason(6), 1);
        Desks.makeCases(five, 1);
        counts("a seventh", five, 1, 6, 5);
    }

    /** "(more are lost; what an END answers is CASE all the same)". */
    private static void moreAreLostButAnsweredCase() {
        RelayDesk desk = desk(6);
        String[] texts = {"", "001 1 KILN\n" + "X".repeat(60) + "\n", "002 5 KILN\n", "003 1 KIL\n"};
        for (String text : texts) {
            check.same("a seventh", Teleprinter.message(desk, 0, text), RelayDesk.CASE);
            counts("a seventh", desk, 0, 6, 6);
        }
        for (int which = 1; which <= 6; which++) {
            check.same("the six are as before", desk.reason(which), 1);
        }
    }

    private static void lostCasesTakeTheirNumbers() {
        RelayDesk desk = desk(6);
        check.same("a seventh with a number", Teleprinter.message(desk, 0, "003\n"), RelayDesk.CASE);
        check.same("LAST", desk.receipt(0), 3);
        check.same("MISSING", desk.askFor(0), 1);
        check.same("the same again", Teleprinter.message(desk, 0, "003\n"), RelayDesk.IGNORED);
    }

    private static void lostCaseOfARoute() {
        RelayDesk desk = desk(5);
        check.same("the sixth", Teleprinter.message(desk, 0, "001 1 YARD\n"), RelayDesk.TAKEN);
        check.same("its reason", desk.reason(6), 5);
        check.same("a seventh", Teleprinter.message(desk, 0, "002 1 YARD KILN\n"), RelayDesk.TAKEN);
        counts("a seventh", desk, 2, 6, 6);
        check.same("it is routed where it can be", desk.trace(2, 1), RelayDesk.NONE);
    }

    /** "A CASE has a reason, the fault": 1 to 5. */
    private static void reasonOfEachFault() {
        RelayDesk desk = desk(0);
        String[] texts = {"\n", "001 1 KILN\n" + "X".repeat(60) + "\n", "002 5 KILN\n", "003 1 KIL\n", "004 1 YARD\n"};
        for (int i = 0; i < texts.length; i++) {
            Teleprinter.message(desk, 0, texts[i]);
            check.same("the reason of case " + (i + 1), desk.reason(i + 1), i + 1);
        }
        counts("five", desk, 1, 5, 5);
    }

    /** "The reason of a CASE; 0 when it was closed." */
    private static void reasonIsZeroWhenClosed() {
        RelayDesk desk = desk(3);
        Teleprinter.clerk(desk, 2, "001 1 KILN");
        check.same("typed, but not handed in", desk.reason(2), 1);
        desk.resubmit(2);
        check.same("closed", desk.reason(2), 0);
        check.same("the one before", desk.reason(1), 1);
        check.same("the one behind", desk.reason(3), 1);
    }

    /** "and a text that the clerk types": each case its own. */
    private static void textsOfTheirOwn() {
        RelayDesk desk = desk(2);
        String one = "001 1 KILN";
        String other = "001 2 LOFT";
        for (int i = 0; i < one.length(); i++) {
            desk.clerk(1, one.charAt(i));
            desk.clerk(2, other.charAt(i));
        }
        check.same("the other one", desk.resubmit(2), 0);
        check.same("the one", desk.resubmit(1), 0);
        check.same("as it is sent", Teleprinter.receive(desk, 3), "001 2 LOFT\nNNNN\n");
        check.same("as it is sent", Teleprinter.receive(desk, 1), "001 1 KILN\nNNNN\n");
    }

    /** "IllegalState: the CASE was closed, or the text has 60." */
    private static void textOfSixty() {
        for (char c : "X0 \n".toCharArray()) {
            RelayDesk desk = desk(2);
            for (int i = 1; i <= 60; i++) {
                check.takes("character " + i, () -> desk.clerk(2, c));
            }
            check.refusesState("character 61", () -> desk.clerk(2, c));
            check.refusesState("still", () -> desk.clerk(2, 'A'));
            check.takes("the other case", () -> desk.clerk(1, c));
        }
        for (int length = 59; length <= 60; length++) {
            RelayDesk desk = desk(1);
            String text = "001 1 KILN\n" + "X".repeat(length - 11);
            check.same("a text of " + length + " is not LONG", handIn(desk, 1, text), 0);
            check.same("all of it", Teleprinter.receive(desk, 1), text + "\nNNNN\n");
        }
    }

    private static void sixtyBehindEachTry() {
        RelayDesk desk = desk(1);
        String[] tries = {"X".repeat(60), "001 " + "X".repeat(56), "001 1 " + "X".repeat(54), "001 1 YARD\n" + "X".repeat(49)};
        int[] faults = {1, 3, 4, 5};
        for (int i = 0; i < tries.length; i++) {
            check.same("sixty of them", handIn(desk, 1, tries[i]), faults[i]);
        }
        check.same("and sixty sound ones", handIn(desk, 1, "001 1 KILN\n" + "X".repeat(49)), 0);
    }

    /** "The clerk's text is handed in as a message (no END": a line NNNN is text like any other. */
    private static void handedInWithoutEnd() {
        RelayDesk desk = desk(3);
        check.same("all NNNN", handIn(desk, 1, "NNNN\n"), 1);
        check.same("a line NNNN", handIn(desk, 1, "001 1 KILN\nNNNN\nA"), 0);
        check.same("it goes on behind the line", Teleprinter.receive(desk, 1) + Teleprinter.receive(desk, 1),
            "001 1 KILN\nNNNN\n" + "A\nNNNN\n");
        check.same("NNNN at last", handIn(desk, 2, "001 1 KILN\nNNNN\n"), 0);
        check.same("goes out before the END", Teleprinter.receive(desk, 1) + Teleprinter.receive(desk, 1), "002 1 KILN\nNNNN\n" + "NNNN\n");
        check.same("an indicator NNNN", handIn(desk, 3, "001 1 NNNN"), 5);
    }

    /** "its NUMBER must be one, and means nothing". */
    private static void numberMustBeOneAndMeansNothing() {
        String[] numbers = {"000", "00", "1000", "AAA", "001", "001", "500", "999", "998", "020", "021"};
        for (int i = 0; i < numbers.length; i++) {
            RelayDesk desk = desk(1);
            Teleprinter.message(desk, 0, "001 1 LOFT\n");
            boolean isOne = i >= 4;
            check.same("number " + numbers[i], handIn(desk, 1, numbers[i] + " 1 KILN"), isOne ? 0 : 1);
            check.same("sent under the channel's own", Teleprinter.receive(desk, 1), isOne ? "001 1 KILN\nNNNN\n" : "");
            for (int channel = 0; channel < 8; channel++) {
                check.same("LAST", desk.receipt(channel), channel == 0 ? 1 : 999);
                check.same("MISSING", desk.askFor(channel), 0);
            }
        }
        RelayDesk twice = desk(2);
        check.same("once", handIn(twice, 1, "005 1 KILN"), 0);
        check.same("twice", handIn(twice, 2, "005 1 KILN"), 0);
    }

    /** "0, and the CASE is closed; or its fault, which is the reason then". */
    private static void faultIsTheReasonThen() {
        RelayDesk desk = desk(1);
        String[] texts = {"001 1", "", "001 5 KILN", "001 1 KILN KILN KILN KILN KILN", "001", "000 1 KILN"};
        int[] faults = {4, 1, 3, 4, 3, 1};
        for (int i = 0; i < texts.length; i++) {
            check.same("the fault", handIn(desk, 1, texts[i]), faults[i]);
            check.same("the reason then", desk.reason(1), faults[i]);
            counts("not closed", desk, 0, 1, 1);
        }
        check.same("sound", handIn(desk, 1, "001 1 KILN"), 0);
        counts("closed", desk, 1, 1, 0);
        RelayDesk full = desk(6);
        check.same("a fault with six cases", handIn(full, 6, "001"), 3);
        counts("no case more", full, 0, 6, 6);
    }

    /** "ROUTE, if some indicator has neither route nor members, which is the reason then (it goes nowhere)." */
    private static void routeIsTheReasonThen() {
        RelayDesk desk = desk(1);
        desk.group(Desks.TEAM, Desks.KILN);
        desk.group(Desks.TEAM, Desks.YARD);
        desk.group(Desks.CREW, Desks.TEAM);
        for (String names : new String[] {"YARD", "KILN YARD", "YARD KILN", "KILN LOFT KILN YARD", "TEAM", "CREW", "KILN CREW"}) {
            check.same("the fault of " + names, handIn(desk, 1, "001 1 " + names), 5);
            check.same("the reason then", desk.reason(1), 5);
            counts("it is no message", desk, 0, 1, 1);
            check.same("it goes nowhere", desk.queued(1, 1) + desk.queued(3, 1), 0);
        }
        desk.route(Desks.YARD, 4, 4);
        check.same("it has a route now", handIn(desk, 1, "001 1 CREW"), 0);
        check.same("it goes there", desk.trace(1, 4), RelayDesk.NONE);
        counts("closed", desk, 1, 1, 0);
    }

    /** "The text is empty then." */
    private static void textIsEmptyThen() {
        for (String text : new String[] {"", "001", "001 1", "001 1 YARD", "001 1 KIL"}) {
            RelayDesk desk = desk(1);
            handIn(desk, 1, text);
            check.same("nothing is left of " + text, desk.resubmit(1), 1);
            handIn(desk, 1, text);
            check.same("nor put before the next", handIn(desk, 1, "001 1 KILN"), 0);
            check.same("as it is sent", Teleprinter.receive(desk, 1), "001 1 KILN\nNNNN\n");
        }
    }

    /** "IllegalState: the CASE was closed, or there are 10 MESSAGES." */
    private static void tenthMessageByAClerk() {
        for (int messages = 8; messages <= 10; messages++) {
            RelayDesk desk = new RelayDesk();
            Desks.makeCases(desk, 2);
            Desks.fillMessages(desk, messages);
            Teleprinter.clerk(desk, 1, "001 1 KILN");
            if (messages < 10) {
                check.same("with " + messages, desk.resubmit(1), 0);
                counts("one more", desk, messages + 1, 2, 1);
            } else {
                check.refusesState("with 10", () -> desk.resubmit(1));
                check.refusesState("with 10, an empty text", () -> desk.resubmit(2));
                counts("as before", desk, 10, 2, 2);
            }
        }
        RelayDesk faulty = new RelayDesk();
        Desks.makeCases(faulty, 1);
        Desks.fillMessages(faulty, 9);
        check.same("a fault with 9", handIn(faulty, 1, "001"), 3);
        check.same("the tenth", handIn(faulty, 1, "001 1 KILN"), 0);
        check.same("its number as a message", faulty.trace(10, 1), RelayDesk.NONE);
        check.same("FULL", Teleprinter.message(faulty, 0, "010 1 KILN\n"), RelayDesk.FULL);
        check.refusesState("a closed one with 10", () -> faulty.resubmit(1));
    }

    private static void resubmittedIsRouted() {
        RelayDesk desk = desk(2);
        desk.open(1, false);
        check.same("handed in", handIn(desk, 1, "001 3 KILN LOFT"), 0);
        check.same("not the closed one", desk.trace(1, 1), 0);
        check.same("its alternate", desk.trace(1, 2), RelayDesk.NONE);
        check.same("and the other one", desk.queued(3, 3), 1);
        desk.open(2, false);
        check.same("handed in", handIn(desk, 2, "001 3 KILN"), 0);
        check.same("both closed", desk.trace(2, 1), RelayDesk.NONE);
    }

    /** "0 MESSAGES": none to ten. */
    private static void countOfMessages() {
        RelayDesk desk = new RelayDesk();
        Desks.route(desk);
        for (int i = 0; i <= 10; i++) {
            counts(i + " messages", desk, i, 0, 0);
            Teleprinter.message(desk, 0, String.format("%03d 1 KILN\n", i + 1));
        }
        counts("one too many", desk, 10, 0, 0);
        Teleprinter.receive(desk, 1);
        counts("one was SENT", desk, 10, 0, 0);
    }

    /** "1 CASES that were made, 2 CASES that are not closed": none to six, and back. */
    private static void countOfCases() {
        RelayDesk desk = desk(0);
        for (int i = 0; i <= 6; i++) {
            counts(i + " cases", desk, 0, i, i);
            Desks.makeCases(desk, 1);
        }
        for (int i = 1; i <= 6; i++) {
            Desks.closeCase(desk, i);
            counts(i + " closed", desk, i, 6, 6 - i);
        }
    }

    /** "NONE for another what." */
    private static void noneForAnotherWhat() {
        RelayDesk desk = new RelayDesk();
        Desks.makeBusy(desk);
        for (int what : new int[] {Integer.MIN_VALUE, -2, -1, 3, 4, Integer.MAX_VALUE}) {
            check.same("count " + what, desk.count(what), RelayDesk.NONE);
            check.same("count " + what + " of a new one", new RelayDesk().count(what), RelayDesk.NONE);
        }
        counts("what is told", desk, 4, 3, 2);
    }
}
