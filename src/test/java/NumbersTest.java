/** Promises 3 and 4: the numbers that a channel took and misses. */
public final class NumbersTest {
    private static final Check check = new Check("NumbersTest");

    public static void main(String[] args) {
        dueNumbers();
        missingOnesInTheirOrder();
        missingOneTakenLeavesLast();
        atMostThirtyMissing();
        faultyOnesTakeTheirNumber();
        closingForgetsTheMissing();
        wrongArguments();
        check.end();
    }

    /** Short of signs: a fault behind the number takes the number as a message does. */
    private static int number(RelayDesk desk, int channel, int number) {
        return Teleprinter.message(desk, channel, String.format("%03d\n", number));
    }

    private static void dueNumbers() {
        RelayDesk desk = new RelayDesk();
        check.same("999 again, at first", number(desk, 0, 999), RelayDesk.IGNORED);
        check.same("21 ahead", number(desk, 0, 21), RelayDesk.IGNORED);
        check.same("LAST is as before", desk.receipt(0), 999);
        check.same("nothing is missing", desk.askFor(0), 0);
        check.same("20 ahead", number(desk, 0, 20), RelayDesk.CASE);
        check.same("LAST", desk.receipt(0), 20);
        check.same("missing", desk.askFor(0), 1);
        check.same("the same again", number(desk, 0, 20), RelayDesk.IGNORED);
        check.same("998 ahead", number(desk, 0, 19), RelayDesk.CASE);
        check.same("1 ahead", number(desk, 0, 21), RelayDesk.CASE);
        check.same("LAST", desk.receipt(0), 21);
        check.same("another channel", desk.receipt(1), 999);
        check.same("999 ahead of 21", number(desk, 0, 999), RelayDesk.IGNORED);
    }

    private static void missingOnesInTheirOrder() {
        RelayDesk desk = new RelayDesk();
        number(desk, 3, 3);
        number(desk, 3, 6);
        int[] order = {1, 2, 4, 5};
        for (int missing : order) {
            check.same("the first missing", desk.askFor(3), missing);
            check.same("it is taken", number(desk, 3, missing), RelayDesk.CASE);
            check.same("once only", number(desk, 3, missing), RelayDesk.IGNORED);
        }
        check.same("none is missing", desk.askFor(3), 0);
        number(desk, 4, 4);
        check.same("one in the middle", number(desk, 4, 2), RelayDesk.CASE);
        check.same("the first is as before", desk.askFor(4), 1);
        number(desk, 4, 1);
        check.same("the next but one", desk.askFor(4), 3);
    }

    private static void missingOneTakenLeavesLast() {
        RelayDesk desk = new RelayDesk();
        number(desk, 0, 10);
        number(desk, 0, 4);
        check.same("LAST", desk.receipt(0), 10);
        check.same("the one behind LAST", number(desk, 0, 11), RelayDesk.CASE);
        check.same("LAST", desk.receipt(0), 11);
        check.same("20 ahead of LAST", number(desk, 0, 31), RelayDesk.CASE);
    }

    private static void atMostThirtyMissing() {
        RelayDesk desk = new RelayDesk();
        number(desk, 0, 20);
        check.same("31 would be missing", number(desk, 0, 33), RelayDesk.IGNORED);
        check.same("LAST is as before", desk.receipt(0), 20);
        check.same("30 are missing", number(desk, 0, 32), RelayDesk.CASE);
        check.same("one more would be", number(desk, 0, 34), RelayDesk.IGNORED);
        check.same("none more", number(desk, 0, 33), RelayDesk.CASE);
        check.same("a missing one is taken", number(desk, 0, 31), RelayDesk.CASE);
        check.same("then there is room", number(desk, 0, 35), RelayDesk.CASE);
        check.same("LAST", desk.receipt(0), 35);
        check.same("the one missed last is missing", number(desk, 0, 34), RelayDesk.CASE);
        check.same("30 ones before it, too", number(desk, 0, 30), RelayDesk.CASE);
        check.same("the first", desk.askFor(0), 1);
    }

    private static void faultyOnesTakeTheirNumber() {
        RelayDesk desk = new RelayDesk();
        for (int i = 1; i <= 8; i++) {
            check.same("a CASE, though more than 6 are lost", number(desk, 0, i), RelayDesk.CASE);
            check.same("its number is taken", desk.receipt(0), i);
        }
        check.same("6 cases", desk.count(1), 6);
        check.same("without a number", Teleprinter.message(desk, 0, "9\n"), RelayDesk.CASE);
        check.same("nothing is taken", desk.receipt(0), 8);
    }

    private static void closingForgetsTheMissing() {
        RelayDesk desk = new RelayDesk();
        number(desk, 0, 5);
        number(desk, 1, 5);
        desk.open(0, true);
        check.same("opened again", desk.askFor(0), 1);
        desk.cut();
        check.same("behind a cut", desk.askFor(0), 1);
        desk.open(0, false);
        check.same("closed", desk.askFor(0), 0);
        check.same("LAST of a closed one", desk.receipt(0), 5);
        desk.open(0, true);
        check.same("missing no more", number(desk, 0, 3), RelayDesk.IGNORED);
        check.same("the next", number(desk, 0, 6), RelayDesk.CASE);
        check.same("another channel", desk.askFor(1), 1);
    }

    private static void wrongArguments() {
        RelayDesk desk = new RelayDesk();
        for (int wrong : new int[] {-1, 8, Integer.MIN_VALUE, Integer.MAX_VALUE}) {
            check.refusesArgument("receipt " + wrong, () -> desk.receipt(wrong));
            check.refusesArgument("askFor " + wrong, () -> desk.askFor(wrong));
        }
        check.same("the last channel", desk.receipt(7), 999);
        check.same("the last channel", desk.askFor(7), 0);
    }
}
