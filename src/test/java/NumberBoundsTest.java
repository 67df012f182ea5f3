/** Boundaries of NUMBERS coming in, and of what an END brings (promises 2, 3 and 4): a method for each sentence. */
public final class NumberBoundsTest {
    private static final Check check = new Check("NumberBoundsTest");

    public static void main(String[] args) {
        lastAtFirst();
        onFromOne();
        dueUpToTwenty();
        dueFromAnotherLast();
        lastItselfAndThoseBefore();
        missingUpToThirty();
        bothLimitsAtOnce();
        oneOfThirtyComes();
        missingInThisOrder();
        missingIsTakenOnce();
        missingTakenLeavesLast();
        manyHundredOn();
        everyFaultButNumberTakesIt();
        numberIsNotTakenWhenFull();
        whatAnEndBringsFirst();
        closedForgetsMissing();
        check.end();
    }

    /** A fault behind the number needs the fewest signs and takes the number as a message does. */
    private static int come(RelayDesk desk, int channel, int number) {
        return Teleprinter.message(desk, channel, String.format("%03d\n", number));
    }

    private static void due(String what, RelayDesk desk, int number, boolean isTaken, int last, int firstMissing) {
        check.same(what, come(desk, 0, number), isTaken ? RelayDesk.CASE : RelayDesk.IGNORED);
        check.same(what + ", LAST", desk.receipt(0), last);
        check.same(what + ", the first MISSING", desk.askFor(0), firstMissing);
    }

    private static RelayDesk desk(int... numbers) {
        RelayDesk desk = new RelayDesk();
        for (int number : numbers) {
            check.same("before: " + number, come(desk, 0, number), RelayDesk.CASE);
        }
        return desk;
    }

    /** "LAST is that taken last (999 at first)." "The first of the MISSING numbers of a channel; 0 without one." */
    private static void lastAtFirst() {
        RelayDesk desk = new RelayDesk();
        for (int channel = 0; channel < 8; channel++) {
            check.same("LAST at first", desk.receipt(channel), 999);
            check.same("MISSING at first", desk.askFor(channel), 0);
        }
        come(desk, 3, 2);
        for (int channel = 0; channel < 8; channel++) {
            check.same("LAST of one", desk.receipt(channel), channel == 3 ? 2 : 999);
            check.same("MISSING of one", desk.askFor(channel), channel == 3 ? 1 : 0);
        }
    }

    /** "NUMBERS of a channel go from 1 to 999 and on from 1". */
    private static void onFromOne() {
        due("1 is behind 999", desk(), 1, true, 1, 0);
        due("2 is the next but one", desk(), 2, true, 2, 1);
        RelayDesk desk = desk(3);
        due("999 is none between", desk, 999, false, 3, 1);
        due("the first between is 1", desk, 1, true, 3, 2);
        due("the last between is 2", desk, 2, true, 3, 0);
    }

    /** "A number is DUE if the count from LAST to it, onwards (1 .. 999), is at most 20". */
    private static void dueUpToTwenty() {
        for (int count = 1; count <= 23; count++) {
            boolean isDue = count <= 20;
            due("a count of " + count, desk(), count, isDue, isDue ? count : 999, isDue && count > 1 ? 1 : 0);
        }
    }

    private static void dueFromAnotherLast() {
        for (int count = 18; count <= 22; count++) {
            boolean isDue = count <= 20;
            due("a count of " + count + " from 1", desk(1), 1 + count, isDue, isDue ? 1 + count : 1, isDue ? 2 : 0);
        }
    }

    /** The count to LAST itself is 999, to the one before it 998. */
    private static void lastItselfAndThoseBefore() {
        due("LAST at first", desk(), 999, false, 999, 0);
        due("the one before it", desk(), 998, false, 999, 0);
        due("twenty before it", desk(), 979, false, 999, 0);
        due("LAST", desk(1), 1, false, 1, 0);
        due("the one before 1", desk(1), 999, false, 1, 0);
        due("half the way", desk(1), 500, false, 1, 0);
    }

    /** "and MISSING are not more than 30 then". */
    private static void missingUpToThirty() {
        due("29 then", desk(20), 31, true, 31, 1);
        due("30 then", desk(20), 32, true, 32, 1);
        due("31 then", desk(20), 33, false, 20, 1);
        due("29, and none between", desk(20, 31), 32, true, 32, 1);
        due("29, and one between", desk(20, 31), 33, true, 33, 1);
        due("29, and two between", desk(20, 31), 34, false, 31, 1);
        due("30, and none between", desk(20, 32), 33, true, 33, 1);
        due("30, and one between", desk(20, 32), 34, false, 32, 1);
    }

    private static void bothLimitsAtOnce() {
        due("a count of 20, 29 then", desk(11), 31, true, 31, 1);
        due("a count of 20, 30 then", desk(12), 32, true, 32, 1);
        due("a count of 20, 31 then", desk(13), 33, false, 13, 1);
        due("a count of 19, 30 then", desk(13), 32, true, 32, 1);
        due("a count of 21, 30 then", desk(11), 32, false, 11, 1);
    }

    private static void oneOfThirtyComes() {
        for (int missing : new int[] {1, 19, 21, 31}) {
            RelayDesk desk = desk(20, 32);
            int first = missing == 1 ? 2 : 1;
            due("one of 30", desk, missing, true, 32, first);
            due("two between are too many", desk, 35, false, 32, first);
            due("then one between is not", desk, 34, true, 34, first);
            due("and one more is too many again", desk, 36, false, 34, first);
        }
    }

    /** "those between become MISSING, in this order behind those that are, and it is LAST". */
    private static void missingInThisOrder() {
        RelayDesk desk = desk(20, 32);
        for (int number = 1; number <= 31; number++) {
            if (number != 20) {
                check.same("the first of those left", desk.askFor(0), number);
                check.same("is taken", come(desk, 0, number), RelayDesk.CASE);
            }
        }
        check.same("none is left", desk.askFor(0), 0);
        check.same("LAST", desk.receipt(0), 32);
        RelayDesk other = desk(4, 7);
        int[] comes = {2, 5, 1, 6, 3};
        int[] first = {1, 1, 3, 3, 0};
        for (int i = 0; i < comes.length; i++) {
            due("out of order", other, comes[i], true, 7, first[i]);
        }
    }

    /** "It is also taken if it is MISSING (no more then). Any other one is IGNORED." */
    private static void missingIsTakenOnce() {
        for (int missing : new int[] {1, 2, 10, 18, 19}) {
            RelayDesk desk = desk(20);
            int first = missing == 1 ? 2 : 1;
            due("a MISSING one", desk, missing, true, 20, first);
            due("the same again", desk, missing, false, 20, first);
        }
    }

    private static void missingTakenLeavesLast() {
        RelayDesk desk = desk(10, 3);
        due("20 from LAST", desk, 30, true, 30, 1);
        due("the one behind the MISSING one", desk, 4, true, 30, 1);
    }

    /** As far as 512 calls lead: closing and opening makes room among the MISSING ones. */
    private static void manyHundredOn() {
        RelayDesk desk = new RelayDesk();
        for (int number = 20; number <= 700; number += 20) {
            check.same("20 on", come(desk, 0, number), RelayDesk.CASE);
            desk.open(0, false);
            desk.open(0, true);
        }
        due("21 more", desk, 721, false, 700, 0);
        due("20 more", desk, 720, true, 720, 701);
    }

    /** "Else with another fault a CASE": LONG, PRECEDENCE, INDICATOR take the number, as a MESSAGE does, NUMBER none. */
    private static void everyFaultButNumberTakesIt() {
        String[] texts = {"002 1 KILN\n" + "X".repeat(60) + "\n", "002 5 KILN\n", "002 1 KIL\n", "002 1 YARD\n", "002 1 KILN\n"};
        for (String text : texts) {
            RelayDesk desk = new RelayDesk();
            Desks.route(desk);
            Teleprinter.message(desk, 0, text);
            due("the same number behind " + text, desk, 2, false, 2, 1);
        }
        RelayDesk desk = new RelayDesk();
        for (String text : new String[] {"02 1 KILN\n", "0002 1 KILN\n", "000 1 KILN\n", "\n002 1 KILN\n"}) {
            check.same("no number", Teleprinter.message(desk, 0, text), RelayDesk.CASE);
            check.same("LAST", desk.receipt(0), 999);
            check.same("MISSING", desk.askFor(0), 0);
        }
    }

    /** "If there are 10 MESSAGES already, nothing, too (and its number is not taken)." */
    private static void numberIsNotTakenWhenFull() {
        RelayDesk desk = new RelayDesk();
        Desks.fillMessages(desk, 9);
        check.same("9 messages", desk.count(0), 9);
        check.same("the tenth", Teleprinter.message(desk, 0, "011 1 KILN\n"), RelayDesk.TAKEN);
        for (String number : new String[] {"012", "013", "031", "010"}) {
            check.same(number + " behind it", Teleprinter.message(desk, 0, number + " 1 KILN\n"), RelayDesk.FULL);
            check.same("LAST", desk.receipt(0), 11);
            check.same("MISSING", desk.askFor(0), 10);
        }
        check.same("10 messages", desk.count(0), 10);
        check.same("another channel", Teleprinter.message(desk, 1, "001 1 KILN\n"), RelayDesk.FULL);
        check.same("LAST there", desk.receipt(1), 999);
        check.same("ahead there", Teleprinter.message(desk, 1, "020 1 KILN\n"), RelayDesk.FULL);
        check.same("MISSING there", desk.askFor(1), 0);
    }

    /** "with the fault NUMBER a CASE. Otherwise, if its number is IGNORED, nothing. If there are 10 MESSAGES already ..." */
    private static void whatAnEndBringsFirst() {
        String more = "\n" + "X".repeat(60) + "\n";
        String[] faults = {"1 KILN\n", " 5 KILN\n", " 1 KIL\n", " 1 KILN" + more, " 1 KILN\n", " 1 YARD\n"};
        int[] ofDue = {RelayDesk.CASE, RelayDesk.CASE, RelayDesk.CASE, RelayDesk.CASE, RelayDesk.TAKEN, RelayDesk.TAKEN};
        for (int i = 0; i < faults.length; i++) {
            boolean hasNumber = i > 0;
            RelayDesk desk = new RelayDesk();
            Desks.route(desk);
            check.same("IGNORED" + faults[i], Teleprinter.message(desk, 0, "021" + faults[i]), hasNumber ? RelayDesk.IGNORED : RelayDesk.CASE);
            check.same("cases behind it", desk.count(1), hasNumber ? 0 : 1);
            check.same("DUE" + faults[i], Teleprinter.message(desk, 0, "020" + faults[i]), ofDue[i]);
            RelayDesk full = new RelayDesk();
            Desks.fillMessages(full, 10);
            check.same("DUE, full" + faults[i], Teleprinter.message(full, 0, "011" + faults[i]), hasNumber ? RelayDesk.FULL : RelayDesk.CASE);
            check.same("IGNORED, full" + faults[i], Teleprinter.message(full, 0, "010" + faults[i]), hasNumber ? RelayDesk.IGNORED : RelayDesk.CASE);
            check.same("cases behind them", full.count(1), hasNumber ? 0 : 2);
        }
    }

    /** "Closed, what it gathered is gone, and its MISSING ones". */
    private static void closedForgetsMissing() {
        RelayDesk desk = desk(20, 32);
        desk.open(0, false);
        check.same("none while it is closed", desk.askFor(0), 0);
        check.same("LAST while it is closed", desk.receipt(0), 32);
        desk.open(0, true);
        due("the first of them", desk, 1, false, 32, 0);
        due("the last of them", desk, 31, false, 32, 0);
        due("there is room for 19", desk, 52, true, 52, 33);
        due("and for 11 more", desk, 64, true, 64, 33);
        due("and for none more", desk, 66, false, 64, 33);
    }
}
